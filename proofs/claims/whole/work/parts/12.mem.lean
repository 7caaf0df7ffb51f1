/-! ===== an instruction of the small machine is one of the machine's: fields, arrays, new cells ===== -/
theorem m_get_ok {h : MHp} {q ci k : Nat} {v : MV} (hg : m_get h q ci k = some v) : ∃ c, h.1[q]? = some c ∧ c.1 = ci ∧ c.2[k]? = some v := by
  unfold m_get at hg
  split at hg
  · rename_i c hc
    split at hg
    · rename_i e
      exact ⟨c, hc, e, hg⟩
    · cases hg
  · cases hg
theorem m_age_ok {h : MHp} {q tag : Nat} {i : Int} {v : MV} (hg : m_age h q tag i = some v) : 0 ≤ i ∧ ∃ c, h.1[q]? = some c ∧ c.1 = tag ∧ c.2[i.toNat]? = some v := by
  unfold m_age at hg
  split at hg
  · rename_i h0
    exact ⟨h0, m_get_ok hg⟩
  · cases hg
theorem m_okH.get {h : List (Nat × List MV)} (hk : m_okH h) {q k : Nat} {c : Nat × List MV} {v : MV} (hc : h[q]? = some c) (hv : c.2[k]? = some v) : m_okV h.length v := (hk c (List.mem_of_getElem? hc)).get hv
theorem m_ent_obj {Y : Nat → ClassId} {A : List Nat} {b : Nat} {c : Nat × List MV} (h : c.1 < 20) : m_ent Y A b c = .inr (c.1, c.2.map (m_val A b)) := if_pos h
theorem m_ent_arr {Y : Nat → ClassId} {A : List Nat} {b : Nat} {c : Nat × List MV} (h : ¬ c.1 < 20) : m_ent Y A b c = .inl (Y c.1, m_row A c.1 c.2) := if_neg h
theorem m_getD_set {vs : List MV} {i : Nat} {v : MV} (hi : i < vs.length) (j : Nat) : (vs.set i v).getD j vN = if j = i then v else vs.getD j vN := by
  rw [List.getD_eq_getElem?_getD, List.getD_eq_getElem?_getD, List.getElem?_set]
  by_cases h : i = j
  · subst h
    simp [hi]
  · rw [if_neg h, if_neg (fun z => h z.symm)]
theorem m_getD_of {vs : List MV} {i : Nat} {v : MV} (h : vs[i]? = some v) : vs.getD i vN = v := by
  rw [List.getD_eq_getElem?_getD, h]; rfl
theorem m_clamp {i : Int} (hi : m_in i) : (Int32.ofInt i).toNatClampNeg = i.toNat := by
  show (Int32.ofInt i).toInt.toNat = _
  rw [m_i hi]
theorem m_vpin {i : Int} {n : Nat} (hi : m_in i) (h0 : 0 ≤ i) (hn : i.toNat < n) : vp_in (Int32.ofInt i) n := by
  rw [vp_in_iff, m_i hi]
  omega
theorem m_fit_ok {tk : Nat} {ty : FieldType} {v : MV} {A : List Nat} {b : Nat} (h1 : m_fit tk v = true) (h2 : m_tyc tk (some ty) = true) : narrow ty (m_val A b v) = m_val A b v ∧ fits ty (m_val A b v) = true := by
  unfold m_tyc at h2
  split at h2
  · rename_i e
    cases e
    rcases v with a | (_ | q) | x | x | x | x <;> first | exact ⟨rfl, rfl⟩ | exact absurd h1 (by simp [m_fit])
  · rename_i e
    cases e
    rcases v with a | z
    case inr => exact absurd h1 (by simp [m_fit])
    have h3 : a = 0 ∨ a = 1 := of_decide_eq_true h1
    rcases h3 with rfl | rfl <;> exact ⟨by rfl, by rfl⟩
  · rename_i e
    cases e
    rcases v with a | (_ | q) | x | x | x | x <;> first | exact ⟨rfl, rfl⟩ | exact absurd h1 (by simp [m_fit])
  · rename_i e
    cases e
    rcases v with a | (_ | q) | x | x | x | x <;> first | exact ⟨rfl, rfl⟩ | exact absurd h1 (by simp [m_fit])
  · cases h2
theorem m_oa_ty {Y : Nat → ClassId} {c : Nat} (h : m_oa c = true) : ∃ (t0 : Nat) (C : String) (T : u_T) (N : Nat), (m_tys Y)[t0]? = some (Y (30 + c), .object C) ∧ vwCl[c]? = some (C, T, N) ∧ Cond.arrayOver (.object C) ∈ m_bad := by
  have h2 : c = 1 ∨ c = 3 ∨ c = 5 ∨ c = 6 ∨ c = 7 ∨ c = 8 := of_decide_eq_true h
  rcases h2 with rfl | rfl | rfl | rfl | rfl | rfl
  · exact ⟨5, RX1, _, _, rfl, rfl, ao_1⟩
  · exact ⟨6, RX3, _, _, rfl, rfl, ao_3⟩
  · exact ⟨7, RX5, _, _, rfl, rfl, ao_5⟩
  · exact ⟨8, RX6, _, _, rfl, rfl, ao_6⟩
  · exact ⟨9, RX7, _, _, rfl, rfl, ao_7⟩
  · exact ⟨10, RX8, _, _, rfl, rfl, ao_8⟩
section G
variable {D : va_G} {Y : Nat → ClassId} {b : Nat} {A0 : Nat → Prop} {xs : Nat → Int32} {L : Nat} {l : Launch} {o : MOut} {h' : MHp} {mi : Nat} {pc : Nat} {r : MCode} {ls st : List MV} {h : MHp}
theorem g_getf {k ci f tk q : Nat} {fin : Bool} {v : MV} (hd : decode (m_cc mi) pc = .ok (.getfield k, 3)) (hf : fR (m_own mi) k = some (ci, f, tk, fin)) (hg : m_get h q ci f = some v) (K : m_G D Y b A0 xs L l o h' mi r ls (v :: st) h) (hp : m_pc r = pc + 3) : m_G D Y b A0 xs L l o h' mi ((pc, .getfield k) :: r) ls (vR q :: st) h := by
  obtain ⟨cl, hc, hci, hv⟩ := m_get_ok hg
  refine K.stk hp (fun _ h2 h3 => m_okL.cons (h3.get hc hv) h2.tail) (fun p e R s m args below meth c A H locs cells slots lsA Q hC hW hS _ _ _ _ _ kk => ?_)
  obtain ⟨C, T, N, hcl, hkN, hl, hfin, hty, hCC⟩ := m_fld hf
  obtain ⟨hci11, huw, -⟩ := m_cls hcl
  obtain ⟨g1, g2, g3, g4, g5, -, -, -, -, -, gK, -, -, -, -⟩ := hC
  have he := hW.get hc
  rw [m_ent_obj (by omega), hci] at he
  exact va_get (D := D) (C := C) (T := T) (N := N) g1 g2 g5 huw g4 gK hW.2.2.1 q he hcl f hkN (g5 _ hl) (fun _ h9 => h9) (by rw [List.getElem?_map, hv]; rfl) hd kk
theorem g_putf {k ci f tk q : Nat} {fin : Bool} {v : MV} (hd : decode (m_cc mi) pc = .ok (.putfield k, 3)) (hf : fR (m_own mi) k = some (ci, f, tk, fin)) (hfit : m_fit tk v = true) (hg : (m_get h q ci f).isSome = true) (hfi : fin = true → m_kind mi = 2 ∧ m_own mi = ci) (hmi : mi < 177 ∨ fin = false) (K : m_G D Y b A0 xs L l o h' mi r ls st (m_set h q f v)) (hp : m_pc r = pc + 3) : m_G D Y b A0 xs L l o h' mi ((pc, .putfield k) :: r) ls (v :: vR q :: st) h := by
  obtain ⟨w, hw⟩ := Option.isSome_iff_exists.mp hg
  obtain ⟨cl, hc, hci, hv⟩ := m_get_ok hw
  refine K.mem hp (fun h2 => h2.tail.tail) (fun p e R s m args below meth c A H locs cells slots lsA Q hC hW hS h2 kk => ?_)
  obtain ⟨C, T, N, hcl, hkN, hl, hfin, hty, hCC⟩ := m_fld hf
  obtain ⟨hci11, huw, -, -, ty0, hty0, hnm, -⟩ := m_cls hcl
  obtain ⟨g1, g2, g3, g4, g5, -, -, -, gn, -, gK, -, -, -, -⟩ := hC
  have he := hW.get hc
  rw [m_ent_obj (by omega), hci] at he
  have hfl : f < (cl.2.map (m_val A b)).length := by
    rw [List.length_map]
    exact (List.getElem?_eq_some_iff.mp hv).1
  have hset : ∀ x : va_E, x = .inr (ci, (cl.2.map (m_val A b)).set f (m_val A b v)) → m_ent Y A b (cl.1, cl.2.set f v) = x := by
    intro x hx
    rw [hx, m_ent_obj (by show cl.1 < 20; omega)]
    show Sum.inr (cl.1, (cl.2.set f v).map (m_val A b)) = _
    rw [List.map_set, hci]
  have hpd : ∃ ty, parseFieldDescriptor (T f).2.2.1 = some ty := ⟨_, hty0 f hkN⟩
  obtain ⟨ty, hpd⟩ := hpd
  rw [hpd] at hty
  obtain ⟨hn, hft⟩ := m_fit_ok (A := A) (b := b) hfit hty
  cases fin with
  | false =>
    exact va_put (D := D) (C := C) (T := T) (N := N) (v := m_val A b v) (ty := ty) g1 g2 g5 huw ty0 hty0 hnm g4 gK hW.2.2.1 hW.2.2.2 hS q he hcl f hkN (g5 _ hl) (fun _ h9 => h9) hfin hpd hn hft hfl hd
      (fun H1 locs1 hP1 hD1 hS1 => kk H1 locs1 (hW.put hc h2.head (by rw [hset _ rfl]; exact hP1) (by rw [hset _ rfl]; exact hD1)) hS1)
  | true =>
    have h177 : mi < 177 := by
      rcases hmi with h9 | h9
      · exact h9
      · cases h9
    obtain ⟨hk2, hoc⟩ := hfi rfl
    have hin : meth.name = "<init>" := by
      rw [gn h177]
      obtain ⟨ps, hps⟩ := m_mcs h177
      simp only [m_mchk, hk2, Bool.and_eq_true, decide_eq_true_eq] at hps
      exact hps.1.1.1.1.1.1.2.2
    have hown : (T f).1 = m_cn (m_own mi) := by
      rw [hCC, hoc]
      have h11 : ∀ k : Nat, k < 11 → (vwCl[k]?).map (fun q => q.1) = some (m_cn k) := by decide
      have h12 := h11 ci hci11
      rw [hcl] at h12
      exact Option.some.inj h12
    exact va_putF (D := D) (C := C) (T := T) (N := N) (v := m_val A b v) (ty := ty) g1 g2 g5 huw ty0 hty0 hnm g4 gK hW.2.2.1 hW.2.2.2 hS q he hcl f hkN (g5 _ hl) (fun _ h9 => h9) hfin hin hown hpd hn hft hfl hd
      (fun H1 locs1 hP1 hD1 hS1 => kk H1 locs1 (hW.put hc h2.head (by rw [hset _ rfl]; exact hP1) (by rw [hset _ rfl]; exact hD1)) hS1)
theorem g_iald {q : Nat} {i a : Int} (hd : decode (m_cc mi) pc = .ok (.iaload, 1)) (hg : m_age h q 20 i = some (vI a)) (K : m_G D Y b A0 xs L l o h' mi r ls (vI a :: st) h) (hp : m_pc r = pc + 1) : m_G D Y b A0 xs L l o h' mi ((pc, .iaload) :: r) ls (vI i :: vR q :: st) h := by
  obtain ⟨h0, cl, hc, hci, hv⟩ := m_age_ok hg
  refine K.stk hp (fun _ h2 h3 => m_okL.cons (h3.get hc hv) h2.tail.tail) (fun p e R s m args below meth c A H locs cells slots lsA Q hC hW hS _ h2 _ _ _ kk => ?_)
  have hi : m_in i := h2.head
  have he := hW.get hc
  rw [m_ent_arr (by omega), hci] at he
  refine va_iald hC.1 hC.2.1 hC.2.2.2.2.2.2.2.2.2.2.1 hW.2.2.1 q 0 he rfl (m_vpin hi h0 (List.getElem?_eq_some_iff.mp hv).1) hd ?_
  rw [m_clamp hi, m_getD_of hv]
  exact kk
theorem g_zald {q : Nat} {i a : Int} (hd : decode (m_cc mi) pc = .ok (.baload, 1)) (hg : m_age h q 21 i = some (vI a)) (K : m_G D Y b A0 xs L l o h' mi r ls (vI a :: st) h) (hp : m_pc r = pc + 1) : m_G D Y b A0 xs L l o h' mi ((pc, .baload) :: r) ls (vI i :: vR q :: st) h := by
  obtain ⟨h0, cl, hc, hci, hv⟩ := m_age_ok hg
  refine K.stk hp (fun _ h2 h3 => m_okL.cons (h3.get hc hv) h2.tail.tail) (fun p e R s m args below meth c A H locs cells slots lsA Q hC hW hS _ h2 _ _ _ kk => ?_)
  have hi : m_in i := h2.head
  have he := hW.get hc
  rw [m_ent_arr (by omega), hci] at he
  refine va_zald hC.1 hC.2.1 hC.2.2.2.2.2.2.2.2.2.2.1 hW.2.2.1 q 1 he rfl (m_vpin hi h0 (List.getElem?_eq_some_iff.mp hv).1) hd ?_
  rw [m_clamp hi, m_getD_of hv]
  exact kk
theorem g_fald {q : Nat} {i : Int} {a : UInt32} (hd : decode (m_cc mi) pc = .ok (.faload, 1)) (hg : m_age h q 22 i = some (vF a)) (K : m_G D Y b A0 xs L l o h' mi r ls (vF a :: st) h) (hp : m_pc r = pc + 1) : m_G D Y b A0 xs L l o h' mi ((pc, .faload) :: r) ls (vI i :: vR q :: st) h := by
  obtain ⟨h0, cl, hc, hci, hv⟩ := m_age_ok hg
  refine K.stk hp (fun _ h2 h3 => m_okL.cons (h3.get hc hv) h2.tail.tail) (fun p e R s m args below meth c A H locs cells slots lsA Q hC hW hS _ h2 _ _ _ kk => ?_)
  have hi : m_in i := h2.head
  have he := hW.get hc
  rw [m_ent_arr (by omega), hci] at he
  refine va_fald hC.1 hC.2.1 hC.2.2.2.2.2.2.2.2.2.2.1 hW.2.2.1 q 2 he rfl (m_vpin hi h0 (List.getElem?_eq_some_iff.mp hv).1) hd ?_
  rw [m_clamp hi, m_getD_of hv]
  exact kk
theorem g_lald {q : Nat} {i : Int} {a : Int64} (hd : decode (m_cc mi) pc = .ok (.laload, 1)) (hg : m_age h q 23 i = some (vL a)) (K : m_G D Y b A0 xs L l o h' mi r ls (vL a :: st) h) (hp : m_pc r = pc + 1) : m_G D Y b A0 xs L l o h' mi ((pc, .laload) :: r) ls (vI i :: vR q :: st) h := by
  obtain ⟨h0, cl, hc, hci, hv⟩ := m_age_ok hg
  refine K.stk hp (fun _ h2 h3 => m_okL.cons (h3.get hc hv) h2.tail.tail) (fun p e R s m args below meth c A H locs cells slots lsA Q hC hW hS _ h2 _ _ _ kk => ?_)
  have hi : m_in i := h2.head
  have he := hW.get hc
  rw [m_ent_arr (by omega), hci] at he
  refine va_lald hC.1 hC.2.1 hC.2.2.2.2.2.2.2.2.2.2.1 hW.2.2.1 q 3 he rfl (m_vpin hi h0 (List.getElem?_eq_some_iff.mp hv).1) hd ?_
  rw [m_clamp hi, m_getD_of hv]
  exact kk
theorem g_dald {q : Nat} {i : Int} {a : UInt64} (hd : decode (m_cc mi) pc = .ok (.daload, 1)) (hg : m_age h q 24 i = some (vD a)) (K : m_G D Y b A0 xs L l o h' mi r ls (vD a :: st) h) (hp : m_pc r = pc + 1) : m_G D Y b A0 xs L l o h' mi ((pc, .daload) :: r) ls (vI i :: vR q :: st) h := by
  obtain ⟨h0, cl, hc, hci, hv⟩ := m_age_ok hg
  refine K.stk hp (fun _ h2 h3 => m_okL.cons (h3.get hc hv) h2.tail.tail) (fun p e R s m args below meth c A H locs cells slots lsA Q hC hW hS _ h2 _ _ _ kk => ?_)
  have hi : m_in i := h2.head
  have he := hW.get hc
  rw [m_ent_arr (by omega), hci] at he
  refine va_dald hC.1 hC.2.1 hC.2.2.2.2.2.2.2.2.2.2.1 hW.2.2.1 q 4 he rfl (m_vpin hi h0 (List.getElem?_eq_some_iff.mp hv).1) hd ?_
  rw [m_clamp hi, m_getD_of hv]
  exact kk
theorem m_row_q {A : List Nat} {t : Nat} (ht : 30 ≤ t) (vs : List MV) : m_row A t vs = (vs.length, .inr (.inr (.inr (.inr (fun j => m_toR A (vs.getD j vN)))))) := by
  unfold m_row
  rw [if_neg (by omega), if_neg (by omega), if_neg (by omega), if_neg (by omega)]
theorem g_aald {q t z : Nat} {i : Int} (hd : decode (m_cc mi) pc = .ok (.aaload, 1)) (ht : 30 ≤ t) (hoa : m_oa (t - 30) = true) (hg : m_age h q t i = some (vR z)) (K : m_G D Y b A0 xs L l o h' mi r ls (vR z :: st) h) (hp : m_pc r = pc + 1) : m_G D Y b A0 xs L l o h' mi ((pc, .aaload) :: r) ls (vI i :: vR q :: st) h := by
  obtain ⟨h0, cl, hc, hci, hv⟩ := m_age_ok hg
  refine K.stk hp (fun _ h2 h3 => m_okL.cons (h3.get hc hv) h2.tail.tail) (fun p e R s m args below meth c A H locs cells slots lsA Q hC hW hS _ h2 _ _ _ kk => ?_)
  have hi : m_in i := h2.head
  obtain ⟨t0, C, T, N, ht0, hcl, -⟩ := m_oa_ty (Y := Y) hoa
  rw [show 30 + (t - 30) = t by omega] at ht0
  have he := hW.get hc
  rw [m_ent_arr (by omega), hci, m_row_q ht] at he
  refine va_aldq hC.1 hC.2.1 hC.2.2.2.2.2.2.2.2.2.2.1 hW.2.2.1 q t0 he ht0 (m_vpin hi h0 (List.getElem?_eq_some_iff.mp hv).1) hd ?_
  rw [m_clamp hi, m_getD_of hv]
  exact kk
theorem g_sald {i : Int} (hd : decode (m_cc mi) pc = .ok (.iaload, 1)) (h0 : 0 ≤ i) (h1 : i + 1 < (L : Int)) (K : m_G D Y b A0 xs L l o h' mi r ls (vI (xs i.toNat).toInt :: st) h) (hp : m_pc r = pc + 1) : m_G D Y b A0 xs L l o h' mi ((pc, .iaload) :: r) ls (vI i :: vS :: st) h := by
  refine K.stk hp (fun _ h2 h3 => m_okL.cons (m_inT _) h2.tail.tail) (fun p e R s m args below meth c A H locs cells slots lsA Q hC hW hS _ h2 _ _ _ kk => ?_)
  have hi : m_in i := h2.head
  obtain ⟨x1, x2, x3⟩ := hC.2.2.2.2.2.2.2.2.2.2.2.1.2.2.2.2.2 (by omega)
  refine va_sld hC.1 hC.2.1 x1 x2 x3 hS (m_vpin hi h0 (by omega)) hd ?_
  rw [List.map_cons, m_vI] at kk
  rw [m_clamp hi]
  exact kk
theorem g_slen (hd : decode (m_cc mi) pc = .ok (.arraylength, 1)) (h1 : 0 < L) (h2 : L ≤ 2147483648) (K : m_G D Y b A0 xs L l o h' mi r ls (vI ((L : Int) - 1) :: st) h) (hp : m_pc r = pc + 1) : m_G D Y b A0 xs L l o h' mi ((pc, .arraylength) :: r) ls (vS :: st) h := by
  refine K.stk hp (fun _ h2 h3 => m_okL.cons (show m_in _ from ⟨by omega, by omega⟩) h2.tail) (fun p e R s m args below meth c A H locs cells slots lsA Q hC hW hS _ h2 _ _ _ kk => ?_)
  obtain ⟨x1, x2, x3⟩ := hC.2.2.2.2.2.2.2.2.2.2.2.1.2.2.2.2.2 h1
  refine va_slen hC.1 hC.2.1 x1 x2 x3 hS hd ?_
  have e : Int32.ofNat (L - 1) = Int32.ofInt ((L : Int) - 1) := by
    rw [show ((L : Int) - 1) = ((L - 1 : Nat) : Int) by omega]
    rfl
  rw [e]
  exact kk
theorem g_alen {q n : Nat} (hd : decode (m_cc mi) pc = .ok (.arraylength, 1)) (hg : ∃ c, h.1[q]? = some c ∧ c.2.length = n ∧ (c.1 = 20 ∨ c.1 = 22)) (hn : n < 2147483648) (K : m_G D Y b A0 xs L l o h' mi r ls (vI n :: st) h) (hp : m_pc r = pc + 1) : m_G D Y b A0 xs L l o h' mi ((pc, .arraylength) :: r) ls (vR q :: st) h := by
  obtain ⟨cl, hc, hl, ht⟩ := hg
  refine K.stk hp (fun _ h2 h3 => m_okL.cons (show m_in _ from ⟨by omega, by omega⟩) h2.tail) (fun p e R s m args below meth c A H locs cells slots lsA Q hC hW hS _ h2 _ _ _ kk => ?_)
  have he := hW.get hc
  rw [m_ent_arr (by omega)] at he
  rcases ht with ht | ht
  · rw [ht] at he
    exact va_alen hC.1 hC.2.1 hC.2.2.2.2.2.2.2.2.2.2.1 hW.2.2.1 q 0 he rfl (v := Int32.ofInt (n : Int)) (by rw [← hl]; rfl) hd kk
  · rw [ht] at he
    exact va_alen hC.1 hC.2.1 hC.2.2.2.2.2.2.2.2.2.2.1 hW.2.2.1 q 2 he rfl (v := Int32.ofInt (n : Int)) (by rw [← hl]; rfl) hd kk
theorem g_iast {q : Nat} {i a : Int} (hd : decode (m_cc mi) pc = .ok (.iastore, 1)) (hg : (m_age h q 20 i).isSome = true) (K : m_G D Y b A0 xs L l o h' mi r ls st (m_set h q i.toNat (vI a))) (hp : m_pc r = pc + 1) : m_G D Y b A0 xs L l o h' mi ((pc, .iastore) :: r) ls (vI a :: vI i :: vR q :: st) h := by
  obtain ⟨w, hw⟩ := Option.isSome_iff_exists.mp hg
  obtain ⟨h0, cl, hc, hci, hv⟩ := m_age_ok hw
  refine K.mem hp (fun h2 => h2.tail.tail.tail) (fun p e R s m args below meth c A H locs cells slots lsA Q hC hW hS h2 kk => ?_)
  have hi : m_in i := h2.tail.head
  have hlt : i.toNat < cl.2.length := (List.getElem?_eq_some_iff.mp hv).1
  have he := hW.get hc
  rw [m_ent_arr (by omega), hci] at he
  have hset : m_ent Y A b (cl.1, cl.2.set i.toNat (vI a)) = .inl (Y 20, cl.2.length, .inl (upd (fun j => Int32.ofInt (m_toI (cl.2.getD j vN))) (Int32.ofInt i).toNatClampNeg (Int32.ofInt a))) := by
    rw [m_ent_arr (by show ¬ cl.1 < 20; omega)]
    show Sum.inl (Y cl.1, m_row A cl.1 (cl.2.set i.toNat (vI a))) = _
    rw [hci, m_clamp hi]
    show Sum.inl (Y 20, (cl.2.set i.toNat (vI a)).length, Sum.inl (fun j => Int32.ofInt (m_toI ((cl.2.set i.toNat (vI a)).getD j vN)))) = _
    rw [List.length_set]
    congr 4
    funext j
    rw [m_getD_set hlt]
    unfold upd
    split <;> rfl
  refine va_iast hC.1 hC.2.1 hC.2.2.2.2.2.2.2.2.2.2.1 hW.2.2.1 hW.2.2.2 hS q 0 he rfl (m_vpin hi h0 hlt) hd (fun H1 locs1 hP1 hD1 hS1 => kk H1 locs1 (hW.put hc h2.head (by rw [hset]; exact hP1) (by rw [hset]; exact hD1)) hS1)
theorem g_zast {q : Nat} {i a : Int} (hd : decode (m_cc mi) pc = .ok (.bastore, 1)) (ha : a = 0 ∨ a = 1) (hg : (m_age h q 21 i).isSome = true) (K : m_G D Y b A0 xs L l o h' mi r ls st (m_set h q i.toNat (vI a))) (hp : m_pc r = pc + 1) : m_G D Y b A0 xs L l o h' mi ((pc, .bastore) :: r) ls (vI a :: vI i :: vR q :: st) h := by
  obtain ⟨w, hw⟩ := Option.isSome_iff_exists.mp hg
  obtain ⟨h0, cl, hc, hci, hv⟩ := m_age_ok hw
  refine K.mem hp (fun h2 => h2.tail.tail.tail) (fun p e R s m args below meth c A H locs cells slots lsA Q hC hW hS h2 kk => ?_)
  have hi : m_in i := h2.tail.head
  have hlt : i.toNat < cl.2.length := (List.getElem?_eq_some_iff.mp hv).1
  have he := hW.get hc
  rw [m_ent_arr (by omega), hci] at he
  have hnar : vp_nar .boolean (Int32.ofInt a) = Int32.ofInt a := by rcases ha with rfl | rfl <;> decide
  have hset : m_ent Y A b (cl.1, cl.2.set i.toNat (vI a)) = .inl (Y 21, cl.2.length, .inl (upd (fun j => Int32.ofInt (m_toI (cl.2.getD j vN))) (Int32.ofInt i).toNatClampNeg (vp_nar .boolean (Int32.ofInt a)))) := by
    rw [m_ent_arr (by show ¬ cl.1 < 20; omega)]
    show Sum.inl (Y cl.1, m_row A cl.1 (cl.2.set i.toNat (vI a))) = _
    rw [hci, m_clamp hi, hnar]
    show Sum.inl (Y 21, (cl.2.set i.toNat (vI a)).length, Sum.inl (fun j => Int32.ofInt (m_toI ((cl.2.set i.toNat (vI a)).getD j vN)))) = _
    rw [List.length_set]
    congr 4
    funext j
    rw [m_getD_set hlt]
    unfold upd
    split <;> rfl
  refine va_zast hC.1 hC.2.1 hC.2.2.2.2.2.2.2.2.2.2.1 hW.2.2.1 hW.2.2.2 hS q 1 he rfl (m_vpin hi h0 hlt) hd (fun H1 locs1 hP1 hD1 hS1 => kk H1 locs1 (hW.put hc h2.head (by rw [hset]; exact hP1) (by rw [hset]; exact hD1)) hS1)
theorem g_fast {q : Nat} {i : Int} {a : UInt32} (hd : decode (m_cc mi) pc = .ok (.fastore, 1)) (hg : (m_age h q 22 i).isSome = true) (K : m_G D Y b A0 xs L l o h' mi r ls st (m_set h q i.toNat (vF a))) (hp : m_pc r = pc + 1) : m_G D Y b A0 xs L l o h' mi ((pc, .fastore) :: r) ls (vF a :: vI i :: vR q :: st) h := by
  obtain ⟨w, hw⟩ := Option.isSome_iff_exists.mp hg
  obtain ⟨h0, cl, hc, hci, hv⟩ := m_age_ok hw
  refine K.mem hp (fun h2 => h2.tail.tail.tail) (fun p e R s m args below meth c A H locs cells slots lsA Q hC hW hS h2 kk => ?_)
  have hi : m_in i := h2.tail.head
  have hlt : i.toNat < cl.2.length := (List.getElem?_eq_some_iff.mp hv).1
  have he := hW.get hc
  rw [m_ent_arr (by omega), hci] at he
  have hset : m_ent Y A b (cl.1, cl.2.set i.toNat (vF a)) = .inl (Y 22, cl.2.length, .inr (.inr (.inl (vf_upd (fun j => m_toF (cl.2.getD j vN)) (Int32.ofInt i).toNatClampNeg a)))) := by
    rw [m_ent_arr (by show ¬ cl.1 < 20; omega)]
    show Sum.inl (Y cl.1, m_row A cl.1 (cl.2.set i.toNat (vF a))) = _
    rw [hci, m_clamp hi]
    show Sum.inl (Y 22, (cl.2.set i.toNat (vF a)).length, Sum.inr (Sum.inr (Sum.inl (fun j => m_toF ((cl.2.set i.toNat (vF a)).getD j vN))))) = _
    rw [List.length_set]
    congr 6
    funext j
    rw [m_getD_set hlt]
    unfold vf_upd
    split <;> rfl
  refine va_fast hC.1 hC.2.1 hC.2.2.2.2.2.2.2.2.2.2.1 hW.2.2.1 hW.2.2.2 hS q 2 he rfl (m_vpin hi h0 hlt) hd (fun H1 locs1 hP1 hD1 hS1 => kk H1 locs1 (hW.put hc h2.head (by rw [hset]; exact hP1) (by rw [hset]; exact hD1)) hS1)
theorem g_last {q : Nat} {i : Int} {a : Int64} (hd : decode (m_cc mi) pc = .ok (.lastore, 1)) (hg : (m_age h q 23 i).isSome = true) (K : m_G D Y b A0 xs L l o h' mi r ls st (m_set h q i.toNat (vL a))) (hp : m_pc r = pc + 1) : m_G D Y b A0 xs L l o h' mi ((pc, .lastore) :: r) ls (vL a :: vI i :: vR q :: st) h := by
  obtain ⟨w, hw⟩ := Option.isSome_iff_exists.mp hg
  obtain ⟨h0, cl, hc, hci, hv⟩ := m_age_ok hw
  refine K.mem hp (fun h2 => h2.tail.tail.tail) (fun p e R s m args below meth c A H locs cells slots lsA Q hC hW hS h2 kk => ?_)
  have hi : m_in i := h2.tail.head
  have hlt : i.toNat < cl.2.length := (List.getElem?_eq_some_iff.mp hv).1
  have he := hW.get hc
  rw [m_ent_arr (by omega), hci] at he
  have hset : m_ent Y A b (cl.1, cl.2.set i.toNat (vL a)) = .inl (Y 23, cl.2.length, .inr (.inl (vp_updL (fun j => m_toL (cl.2.getD j vN)) (Int32.ofInt i).toNatClampNeg a))) := by
    rw [m_ent_arr (by show ¬ cl.1 < 20; omega)]
    show Sum.inl (Y cl.1, m_row A cl.1 (cl.2.set i.toNat (vL a))) = _
    rw [hci, m_clamp hi]
    show Sum.inl (Y 23, (cl.2.set i.toNat (vL a)).length, Sum.inr (Sum.inl (fun j => m_toL ((cl.2.set i.toNat (vL a)).getD j vN)))) = _
    rw [List.length_set]
    congr 5
    funext j
    rw [m_getD_set hlt]
    unfold vp_updL
    split <;> rfl
  refine va_last hC.1 hC.2.1 hC.2.2.2.2.2.2.2.2.2.2.1 hW.2.2.1 hW.2.2.2 hS q 3 he rfl (m_vpin hi h0 hlt) hd (fun H1 locs1 hP1 hD1 hS1 => kk H1 locs1 (hW.put hc h2.head (by rw [hset]; exact hP1) (by rw [hset]; exact hD1)) hS1)
theorem g_dast {q : Nat} {i : Int} {a : UInt64} (hd : decode (m_cc mi) pc = .ok (.dastore, 1)) (hg : (m_age h q 24 i).isSome = true) (K : m_G D Y b A0 xs L l o h' mi r ls st (m_set h q i.toNat (vD a))) (hp : m_pc r = pc + 1) : m_G D Y b A0 xs L l o h' mi ((pc, .dastore) :: r) ls (vD a :: vI i :: vR q :: st) h := by
  obtain ⟨w, hw⟩ := Option.isSome_iff_exists.mp hg
  obtain ⟨h0, cl, hc, hci, hv⟩ := m_age_ok hw
  refine K.mem hp (fun h2 => h2.tail.tail.tail) (fun p e R s m args below meth c A H locs cells slots lsA Q hC hW hS h2 kk => ?_)
  have hi : m_in i := h2.tail.head
  have hlt : i.toNat < cl.2.length := (List.getElem?_eq_some_iff.mp hv).1
  have he := hW.get hc
  rw [m_ent_arr (by omega), hci] at he
  have hset : m_ent Y A b (cl.1, cl.2.set i.toNat (vD a)) = .inl (Y 24, cl.2.length, .inr (.inr (.inr (.inl (vf_upd (fun j => m_toD (cl.2.getD j vN)) (Int32.ofInt i).toNatClampNeg a))))) := by
    rw [m_ent_arr (by show ¬ cl.1 < 20; omega)]
    show Sum.inl (Y cl.1, m_row A cl.1 (cl.2.set i.toNat (vD a))) = _
    rw [hci, m_clamp hi]
    show Sum.inl (Y 24, (cl.2.set i.toNat (vD a)).length, Sum.inr (Sum.inr (Sum.inr (Sum.inl (fun j => m_toD ((cl.2.set i.toNat (vD a)).getD j vN)))))) = _
    rw [List.length_set]
    congr 7
    funext j
    rw [m_getD_set hlt]
    unfold vf_upd
    split <;> rfl
  refine va_dast hC.1 hC.2.1 hC.2.2.2.2.2.2.2.2.2.2.1 hW.2.2.1 hW.2.2.2 hS q 4 he rfl (m_vpin hi h0 hlt) hd (fun H1 locs1 hP1 hD1 hS1 => kk H1 locs1 (hW.put hc h2.head (by rw [hset]; exact hP1) (by rw [hset]; exact hD1)) hS1)
theorem g_aast {q z t : Nat} {i : Int} (hd : decode (m_cc mi) pc = .ok (.aastore, 1)) (ht : m_tag h z = some t) (hoa : m_oa t = true) (hg : (m_age h q (30 + t) i).isSome = true) (K : m_G D Y b A0 xs L l o h' mi r ls st (m_set h q i.toNat (vR z))) (hp : m_pc r = pc + 1) : m_G D Y b A0 xs L l o h' mi ((pc, .aastore) :: r) ls (vR z :: vI i :: vR q :: st) h := by
  obtain ⟨w, hw⟩ := Option.isSome_iff_exists.mp hg
  obtain ⟨h0, cl, hc, hci, hv⟩ := m_age_ok hw
  have hz : ∃ c, h.1[z]? = some c ∧ c.1 = t := by
    unfold m_tag at ht
    split at ht
    · rename_i c hc
      cases ht
      exact ⟨c, hc, rfl⟩
    · cases ht
  obtain ⟨cz, hcz, hczt⟩ := hz
  refine K.mem hp (fun h2 => h2.tail.tail.tail) (fun p e R s m args below meth c A H locs cells slots lsA Q hC hW hS h2 kk => ?_)
  have hi : m_in i := h2.tail.head
  obtain ⟨t0, C, T, N, ht0, hcl, -⟩ := m_oa_ty (Y := Y) hoa
  have ht11 := (m_cls hcl).1
  have hlt : i.toNat < cl.2.length := (List.getElem?_eq_some_iff.mp hv).1
  have he := hW.get hc
  rw [m_ent_arr (by omega), hci, m_row_q (by omega)] at he
  have hez := hW.get hcz
  rw [m_ent_obj (by omega), hczt] at hez
  have hset : m_ent Y A b (cl.1, cl.2.set i.toNat (vR z)) = .inl (Y (30 + t), cl.2.length, .inr (.inr (.inr (.inr (va_up (fun j => m_toR A (cl.2.getD j vN)) (Int32.ofInt i).toNatClampNeg (some (A.getD z 0))))))) := by
    rw [m_ent_arr (by show ¬ cl.1 < 20; omega)]
    show Sum.inl (Y cl.1, m_row A cl.1 (cl.2.set i.toNat (vR z))) = _
    rw [hci, m_clamp hi, m_row_q (by omega), List.length_set]
    congr 7
    funext j
    rw [m_getD_set hlt]
    unfold va_up
    split <;> rfl
  refine va_astq (r := (C, T, N)) hC.1 hC.2.1 hC.2.2.2.2.2.2.2.2.2.2.1 hW.2.2.1 hW.2.2.2 hS q t0 z t he ht0 hez hcl (m_vpin hi h0 hlt) hd (fun H1 locs1 hP1 hD1 hS1 => kk H1 locs1 (hW.put hc h2.head (by rw [hset]; exact hP1) (by rw [hset]; exact hD1)) hS1)
theorem m_rep {n : Nat} {v : MV} (j : Nat) : (List.replicate n v).getD j vN = v ∨ (List.replicate n v).getD j vN = vN := by
  rw [List.getD_eq_getElem?_getD, List.getElem?_replicate]
  split
  · exact Or.inl rfl
  · exact Or.inr rfl
theorem m_okL.rep {n k : Nat} {v : MV} (hv : m_okV n v) : m_okL n (List.replicate k v) := fun w hw => by rw [(List.mem_replicate.mp hw).2]; exact hv
/-- a new array of numbers: its kind, its class by the tables, its zero -/
theorem g_newarr {tag t0 : Nat} {at0 : ArrayType} {ty : FieldType} {v : MV} {n : Int} (hd : decode (m_cc mi) pc = .ok (.newarray at0, 2)) (hty : newarray.typeOf at0 = ty) (htag : 20 ≤ tag ∧ tag < 30) (hov : ∀ k : Nat, m_okV k v) (haw : Cond.arrayClass ty ∈ lw_good) (ht0 : (m_tys Y)[t0]? = some (Y tag, ty)) (hra : ∀ (U : State) (c : ClassId), va_RA U c ty → U.vm.findClass ("[" ++ ty.toString) = some c) (hcb : componentBytes ty ≤ 8)
    (hz : ∀ (cA : ClassId) (A : List Nat), vp_cell cA (m_row A tag (List.replicate n.toNat v)) = arrV cA n.toNat (fun _ => defaultValue ty)) (hn : 0 ≤ n ∧ n ≤ 1000) (K : m_G D Y b A0 xs L l o h' mi r ls (vR h.1.length :: st) (m_push h tag (List.replicate n.toNat v))) (hp : m_pc r = pc + 2) : m_G D Y b A0 xs L l o h' mi ((pc, .newarray at0) :: r) ls (vI n :: st) h := by
  refine K.new hp (fun h2 => h2.tail) (fun p e R s m args below meth c A H locs cells slots lsA Q hC hW hS h2 hc1 hc2 kk => ?_)
  have hi : m_in n := ⟨by omega, by omega⟩
  have hsz : (List.replicate n.toNat v).length = n.toNat := List.length_replicate
  rw [hsz] at hc2 kk
  obtain ⟨g1, g2, g3, g4, g5, -, -, -, -, -, gK, -, gA, -, -⟩ := hC
  subst hty
  refine va_newa (atype := at0) g1 g2 (g5 _ haw) rfl gK hW.2.2.1 hW.2.2.2 hS gA (a0 := m_row A tag (List.replicate n.toNat v)) (fun cA => hz cA A) (fun z => ?_) (m_clamp hi) ?_ hc1 hc2 hd (fun q cA H1 hK1 hP1 hD1 hS1 => ?_)
  · rw [m_z0, m_ilt hi m_in0] at z
    omega
  · have : n.toNat ≤ 1000 := by omega
    calc n.toNat * componentBytes (newarray.typeOf at0) ≤ 1000 * 8 := Nat.mul_le_mul this hcb
      _ ≤ 536870912 := by decide
  · have e1 := hra s cA (hK1.2 (m_tys Y).length (cA, newarray.typeOf at0) (by rw [List.getElem?_append_right (Nat.le_refl _), Nat.sub_self]; rfl)).2
    have e2 := hra s (Y tag) (gK.2 t0 _ ht0).2
    have e3 : cA = Y tag := Option.some.inj (e1.symm.trans e2)
    subst e3
    have e4 : m_ent Y A b (tag, List.replicate n.toNat v) = .inl (Y tag, m_row A tag (List.replicate n.toNat v)) := m_ent_arr (by show ¬ tag < 20; omega)
    refine kk q H1 (m_W.push hW.1 hW.2.1 (m_okL.rep (hov _)) ?_ ?_) hS1
    · rw [e4]; exact hP1
    · rw [e4]; exact hD1
theorem g_newi {n : Int} (hd : decode (m_cc mi) pc = .ok (.newarray .int, 2)) (hn : 0 ≤ n ∧ n ≤ 1000) (K : m_G D Y b A0 xs L l o h' mi r ls (vR h.1.length :: st) (m_push h 20 (List.replicate n.toNat (vI 0)))) (hp : m_pc r = pc + 2) : m_G D Y b A0 xs L l o h' mi ((pc, .newarray .int) :: r) ls (vI n :: st) h :=
  g_newarr (v := vI 0) (t0 := 0) (ty := .int) hd rfl (by decide) (fun _ => m_in0) aw_int rfl (fun _ _ h => h) (by decide) (fun cA A => by
    show arrV cA (List.replicate n.toNat (vI 0)).length (fun j => Value.int (Int32.ofInt (m_toI ((List.replicate n.toNat (vI 0)).getD j vN)))) = _
    rw [List.length_replicate]
    congr 1
    funext j
    rcases m_rep (n := n.toNat) (v := vI 0) j with h | h <;> rw [h] <;> rfl) hn K hp
theorem g_newz {n : Int} (hd : decode (m_cc mi) pc = .ok (.newarray .boolean, 2)) (hn : 0 ≤ n ∧ n ≤ 1000) (K : m_G D Y b A0 xs L l o h' mi r ls (vR h.1.length :: st) (m_push h 21 (List.replicate n.toNat (vI 0)))) (hp : m_pc r = pc + 2) : m_G D Y b A0 xs L l o h' mi ((pc, .newarray .boolean) :: r) ls (vI n :: st) h :=
  g_newarr (v := vI 0) (t0 := 1) (ty := .boolean) hd rfl (by decide) (fun _ => m_in0) aw_boolean rfl (fun _ _ h => h) (by decide) (fun cA A => by
    show arrV cA (List.replicate n.toNat (vI 0)).length (fun j => Value.int (Int32.ofInt (m_toI ((List.replicate n.toNat (vI 0)).getD j vN)))) = _
    rw [List.length_replicate]
    congr 1
    funext j
    rcases m_rep (n := n.toNat) (v := vI 0) j with h | h <;> rw [h] <;> rfl) hn K hp
theorem g_newf {n : Int} (hd : decode (m_cc mi) pc = .ok (.newarray .float, 2)) (hn : 0 ≤ n ∧ n ≤ 1000) (K : m_G D Y b A0 xs L l o h' mi r ls (vR h.1.length :: st) (m_push h 22 (List.replicate n.toNat (vF 0)))) (hp : m_pc r = pc + 2) : m_G D Y b A0 xs L l o h' mi ((pc, .newarray .float) :: r) ls (vI n :: st) h :=
  g_newarr (v := vF 0) (t0 := 2) (ty := .float) hd rfl (by decide) (fun _ => trivial) aw_float rfl (fun _ _ h => h) (by decide) (fun cA A => by
    show arrV cA (List.replicate n.toNat (vF 0)).length (fun j => Value.float (m_toF ((List.replicate n.toNat (vF 0)).getD j vN))) = _
    rw [List.length_replicate]
    congr 1
    funext j
    rcases m_rep (n := n.toNat) (v := vF 0) j with h | h <;> rw [h] <;> rfl) hn K hp
theorem g_newl {n : Int} (hd : decode (m_cc mi) pc = .ok (.newarray .long, 2)) (hn : 0 ≤ n ∧ n ≤ 1000) (K : m_G D Y b A0 xs L l o h' mi r ls (vR h.1.length :: st) (m_push h 23 (List.replicate n.toNat (vL 0)))) (hp : m_pc r = pc + 2) : m_G D Y b A0 xs L l o h' mi ((pc, .newarray .long) :: r) ls (vI n :: st) h :=
  g_newarr (v := vL 0) (t0 := 3) (ty := .long) hd rfl (by decide) (fun _ => trivial) aw_long rfl (fun _ _ h => h) (by decide) (fun cA A => by
    show arrV cA (List.replicate n.toNat (vL 0)).length (fun j => Value.long (m_toL ((List.replicate n.toNat (vL 0)).getD j vN))) = _
    rw [List.length_replicate]
    congr 1
    funext j
    rcases m_rep (n := n.toNat) (v := vL 0) j with h | h <;> rw [h] <;> rfl) hn K hp
theorem g_newd {n : Int} (hd : decode (m_cc mi) pc = .ok (.newarray .double, 2)) (hn : 0 ≤ n ∧ n ≤ 1000) (K : m_G D Y b A0 xs L l o h' mi r ls (vR h.1.length :: st) (m_push h 24 (List.replicate n.toNat (vD 0)))) (hp : m_pc r = pc + 2) : m_G D Y b A0 xs L l o h' mi ((pc, .newarray .double) :: r) ls (vI n :: st) h :=
  g_newarr (v := vD 0) (t0 := 4) (ty := .double) hd rfl (by decide) (fun _ => trivial) aw_double rfl (fun _ _ h => h) (by decide) (fun cA A => by
    show arrV cA (List.replicate n.toNat (vD 0)).length (fun j => Value.double (m_toD ((List.replicate n.toNat (vD 0)).getD j vN))) = _
    rw [List.length_replicate]
    congr 1
    funext j
    rcases m_rep (n := n.toNat) (v := vD 0) j with h | h <;> rw [h] <;> rfl) hn K hp
theorem g_newq {k ci : Nat} {n : Int} (hd : decode (m_cc mi) pc = .ok (.anewarray k, 3)) (hk : kR (m_own mi) k = some (0, ci)) (hoa : m_oa ci = true) (hn : 0 ≤ n ∧ n ≤ 1000) (K : m_G D Y b A0 xs L l o h' mi r ls (vR h.1.length :: st) (m_push h (30 + ci) (List.replicate n.toNat vN))) (hp : m_pc r = pc + 3) : m_G D Y b A0 xs L l o h' mi ((pc, .anewarray k) :: r) ls (vI n :: st) h := by
  refine K.new hp (fun h2 => h2.tail) (fun p e R s m args below meth c A H locs cells slots lsA Q hC hW hS h2 hc1 hc2 kk => ?_)
  have hi : m_in n := ⟨by omega, by omega⟩
  have hsz : (List.replicate n.toNat vN).length = n.toNat := List.length_replicate
  rw [hsz] at hc2 kk
  obtain ⟨g1, g2, g3, g4, g5, -, -, -, -, -, gK, gX, gA, -, -⟩ := hC
  obtain ⟨t0, C, T, N, ht0, hcl, hao⟩ := m_oa_ty (Y := Y) hoa
  obtain ⟨i1, hi1⟩ := m_kcs (m_own mi) _ (m_lookup hk)
  have hcl2 : Cond.classLink (m_cn (m_own mi)) k C ∈ lw_good := by
    simp only [m_kc] at hi1
    rw [hcl] at hi1
    exact m_pg_ok hi1
  refine va_newq g1 g2 g4 (g5 _ hcl2) (gX.2.2.2.1 _ hao) gK hW.2.2.1 hW.2.2.2 hS gA (fun z => ?_) (m_clamp hi) (by omega) hc1 hc2 hd (fun q cA H1 hK1 hP1 hD1 hS1 => ?_)
  · rw [m_z0, m_ilt hi m_in0] at z
    omega
  · obtain ⟨-, -, -, -, -, e1⟩ := (hK1.2 (m_tys Y).length (cA, .object C) (by rw [List.getElem?_append_right (Nat.le_refl _), Nat.sub_self]; rfl)).2
    obtain ⟨-, -, -, -, -, e2⟩ := (gK.2 t0 _ ht0).2
    have e3 : cA = Y (30 + ci) := Option.some.inj (e1.symm.trans e2)
    subst e3
    have e4 : m_ent Y A b (30 + ci, List.replicate n.toNat vN) = .inl (Y (30 + ci), n.toNat, .inr (.inr (.inr (.inr (fun _ => none))))) := by
      rw [m_ent_arr (by show ¬ 30 + ci < 20; omega)]
      show Sum.inl (Y (30 + ci), m_row A (30 + ci) (List.replicate n.toNat vN)) = _
      rw [m_row_q (by omega), List.length_replicate]
      congr 7
      funext j
      rcases m_rep (n := n.toNat) (v := vN) j with h | h <;> rw [h] <;> rfl
    refine kk q H1 (m_W.push hW.1 hW.2.1 (m_okL.rep trivial) ?_ ?_) hS1
    · rw [e4]; exact hP1
    · rw [e4]; exact hD1
theorem g_new {k ci : Nat} (hd : decode (m_cc mi) pc = .ok (.new k, 3)) (hk : kR (m_own mi) k = some (0, ci)) (K : m_G D Y b A0 xs L l o h' mi r ls (vR h.1.length :: st) (m_push h ci (tD.getD ci []))) (hp : m_pc r = pc + 3) : m_G D Y b A0 xs L l o h' mi ((pc, .new k) :: r) ls st h := by
  obtain ⟨i1, hi1⟩ := m_kcs (m_own mi) _ (m_lookup hk)
  have hx : ∃ q, vwCl[ci]? = some q ∧ Cond.classLink (m_cn (m_own mi)) k q.1 ∈ lw_good := by
    simp only [m_kc] at hi1
    split at hi1
    · rename_i q hq
      exact ⟨q, hq, m_pg_ok hi1⟩
    · cases hi1
  obtain ⟨⟨C, T, N⟩, hcl, hcl2⟩ := hx
  obtain ⟨hci, huw, hins, hini, ty0, hty0, hnm, hlen, hdef⟩ := m_cls hcl
  refine K.new hp (fun h2 => h2) (fun p e R s m args below meth c A H locs cells slots lsA Q hC hW hS h2 hc1 hc2 kk => ?_)
  rw [hlen] at hc2 kk
  obtain ⟨g1, g2, g3, g4, g5, -, -, -, -, -, gK, gX, gA, -, -⟩ := hC
  refine va_new (D := D) (C := C) (T := T) (N := N) (ci := ci) (fs := (tD.getD ci []).map (m_val A b)) g1 g2 g5 huw ty0 hty0 g4 (g5 _ hcl2) (g5 _ hins) (g5 _ hini) gK hW.2.2.1 hW.2.2.2 hS gA hcl (fun j hj => hdef j hj A b) hc1 hc2 hd (fun q H1 hP1 hD1 hS1 => ?_)
  have e4 : m_ent Y A b (ci, tD.getD ci []) = .inr (ci, (tD.getD ci []).map (m_val A b)) := m_ent_obj (by show ci < 20; omega)
  have hok : m_okL h.1.length (tD.getD ci []) := by
    intro v hv
    have h9 : ∀ c : Nat, c < 11 → (tD.getD c []).all (fun v => match v with
      | .inl a => decide (a = 0)
      | .inr (.inl none) => true
      | _ => false) = true := by decide
    have h10 := List.all_eq_true.mp (h9 ci hci) v hv
    rcases v with a | (_ | z) | x | x | x | x
    · have : a = 0 := by simpa using h10
      subst this
      exact m_in0
    · exact trivial
    · simp at h10
    · exact trivial
    · exact trivial
    · exact trivial
    · exact trivial
  refine kk q H1 (m_W.push hW.1 hW.2.1 hok ?_ ?_) hS1
  · rw [e4]; exact hP1
  · rw [e4]; exact hD1
theorem g_ldc {k : Nat} {v : MV} (hd : decode (m_cc mi) pc = .ok (.ldc k, 2)) (hk : lR (m_own mi) k = some v) (K : m_G D Y b A0 xs L l o h' mi r ls (v :: st) h) (hp : m_pc r = pc + 2) : m_G D Y b A0 xs L l o h' mi ((pc, .ldc k) :: r) ls st h := by
  obtain ⟨i1, hi1⟩ := m_lcs (m_own mi) _ (m_lookup hk)
  rcases v with a | (_ | q) | x | x | x | x
  · simp only [m_lc, Bool.and_eq_true, decide_eq_true_eq] at hi1
    exact K.stk hp (fun _ h2 _ => m_okL.cons (show m_in a from hi1.2) h2) (fun p e R s m args below meth c A H locs cells slots lsA Q hC _ _ _ _ _ _ _ kk => lv_ldc hC.1 hC.2.1 hC.2.2.2.1 (hC.2.2.2.2.1 _ (m_pg_ok hi1.1)) hd kk)
  · cases hi1
  · cases hi1
  · exact K.stk hp (fun _ h2 _ => m_okL.cons trivial h2) (fun p e R s m args below meth c A H locs cells slots lsA Q hC _ _ _ _ _ _ _ kk => lv_ldcf hC.1 hC.2.1 hC.2.2.2.1 (hC.2.2.2.2.1 _ (m_pg_ok hi1)) hd kk)
  · cases hi1
  · cases hi1
  · cases hi1
theorem lv_ldcwf {p : Program} {l : Launch} {e : Env} {R : Room} {s : State} {m : MethodId} {args : Array Value} {below : List Frame} {meth : Method} {c : Code} {H : Heap} {locs : List Loc} {cells slots : Nat} {Q : State → Prop} {cc : ByteArray} {pc : Nat} {ls : Array Slot} {rest : List Value} (hexec : p.tables.exec = Jvm.exec) (hb : c.code = cc) {own : String} {index : Nat} {v : UInt32} (hown : s.vm.findClass own = some m.cls) (hconst : (Jvm.Cond.constantFloat own index v).before args s = true) (hdg : decode cc pc = .ok (.ldc_w index, 3)) (k : W p l e R s m args below meth c H locs cells slots Q (F0 m (pc + 3) ls (.float v :: rest))) : W p l e R s m args below meth c H locs cells slots Q (F0 m pc ls rest) := by
  intro T hT X
  obtain ⟨t, a, b⟩ := k T hT X
  refine ⟨t, ?_, b⟩
  obtain ⟨k, cf, hk, hcf, hcp⟩ := Cond.constantFloat_spec hown hconst
  obtain ⟨k', hk', he⟩ := X.warmed.alike.2.2 _ _ hk
  jvm_step X.here [X.here.top, hexec, hb, hdg, ldc_w.wp_float (s := T) (f := F0 m pc ls rest) X.here.top hk' (by rw [he]; exact hcf) hcp]
  exact a
theorem g_ldcw {k : Nat} {v : MV} (hd : decode (m_cc mi) pc = .ok (.ldc_w k, 3)) (hk : lR (m_own mi) k = some v) (K : m_G D Y b A0 xs L l o h' mi r ls (v :: st) h) (hp : m_pc r = pc + 3) : m_G D Y b A0 xs L l o h' mi ((pc, .ldc_w k) :: r) ls st h := by
  obtain ⟨i1, hi1⟩ := m_lcs (m_own mi) _ (m_lookup hk)
  rcases v with a | (_ | q) | x | x | x | x
  · simp only [m_lc, Bool.and_eq_true, decide_eq_true_eq] at hi1
    exact K.stk hp (fun _ h2 _ => m_okL.cons (show m_in a from hi1.2) h2) (fun p e R s m args below meth c A H locs cells slots lsA Q hC _ _ _ _ _ _ _ kk => lv_ldcw hC.1 hC.2.1 hC.2.2.2.1 (hC.2.2.2.2.1 _ (m_pg_ok hi1.1)) hd kk)
  · cases hi1
  · cases hi1
  · exact K.stk hp (fun _ h2 _ => m_okL.cons trivial h2) (fun p e R s m args below meth c A H locs cells slots lsA Q hC _ _ _ _ _ _ _ kk => lv_ldcwf hC.1 hC.2.1 hC.2.2.2.1 (hC.2.2.2.2.1 _ (m_pg_ok hi1)) hd kk)
  · cases hi1
  · cases hi1
  · cases hi1
end G
