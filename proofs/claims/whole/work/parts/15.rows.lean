/-! ===== a call of each kind is a row of the machine ===== -/
theorem m_ret2 : ∀ mi, mi < 177 → (m_kind mi = 2 → m_ret mi = none ∧ m_hand mi = []) ∧ (m_kind mi = 1 → m_own mi < 11 ∧ m_hand mi = []) ∧ m_kind mi < 3 := by
  have h : ∀ mi, mi < 177 → (decide (m_kind mi = 2 → (m_ret mi).isNone = true ∧ (m_hand mi).isEmpty = true) && decide (m_kind mi = 1 → m_own mi < 11 ∧ (m_hand mi).isEmpty = true) && decide (m_kind mi < 3)) = true := by decide +kernel
  intro mi hmi
  have h1 := h mi hmi
  simp only [Bool.and_eq_true, decide_eq_true_eq] at h1
  refine ⟨fun hk => ?_, fun hk => ?_, h1.2⟩
  · have := h1.1.1 hk
    exact ⟨Option.isNone_iff_eq_none.mp this.1, List.isEmpty_iff.mp this.2⟩
  · have := h1.1.2 hk
    exact ⟨this.1, List.isEmpty_iff.mp this.2⟩
theorem m_good_cons {mj : Nat} (h : m_cw mj ∈ lw_good) : ∀ w ∈ m_cw mj :: lw_good, w ∈ lw_good ∧ ((w.onTables && w.keeps) = true ∨ ∃ ty, w = .arrayClass ty) := by
  intro w hw
  rcases List.mem_cons.mp hw with rfl | hw
  · exact good_in _ h
  · exact good_in _ hw
section G
variable {D : va_G} {Y : Nat → ClassId} {b : Nat} {A0 : Nat → Prop} {xs : Nat → Int32} {L : Nat} {l : Launch} {o : MOut} {h' : MHp} {mi : Nat} {pc : Nat} {r : MCode} {ls st : List MV} {h : MHp}
/-- the callee's start at the call -/
theorem m_pre {av : List MV} {A : List Nat} {s : State} {H : Heap} {locs : List Loc} (hW : m_W D Y b A0 A h H) (hS : va_S A0 s.heap H locs) (hK : va_K D vwCl (m_tys Y) s) (hX : m_X xs L b A0 s s.heap) (hA : ∀ q : Nat, s.heap.size ≤ q → A0 q) : ∀ U : State, U.heap = H → s.WarmedH U.vm → m_Pc D Y b A0 xs L av h A (av.map (m_val A b)).toArray U :=
  fun U hU hWm => ⟨rfl, by rw [hU]; exact hW, va_K.moved hWm.alike hK, hX.at hS hU hWm, fun q hq => hA q (Nat.le_trans hS.1 (by rw [← hU]; exact hq))⟩
theorem g_invs {n k mj : Nat} (hS : m_SND D Y b A0 xs L l n) {av : List MV} {h1 : MHp} {o1 : MOut} (hd : decode (m_cc mi) pc = .ok (.invokestatic k, 3)) (hk : cR (m_own mi) k = some (1, mj)) (hkind : m_kind mj = 0) (hn : av.length = m_narg mj) (hfr : m_frs mj + 1 ≤ m_frs mi ∧ 19 + m_maxL mj + m_loc mj ≤ m_loc mi) (hcat : ∀ v ∈ av, m_cat v = 1) (hav : av.length ≤ m_maxL mj) (hst8 : (st.map m_cat).sum ≤ 8) (hl : l.stackTraces = false)
    (hmi : mi < 178) (hlen : ls.length = m_maxL mi) (hvr : m_vl mi r) (hpr : r ≠ [] → m_pc r = pc + 3) (hok : ∀ A : List Nat, True) (hrun : m_run xs L n mj (m_entry mj av h) = some (o1, h1)) (hback : m_back (m_run xs L n) mi pc r ls st (o1, h1) = some (o, h')) (hov : m_okL h.1.length (av.reverse ++ st) → m_okL h.1.length av) :
    m_G D Y b A0 xs L l o h' mi ((pc, .invokestatic k) :: r) ls (av.reverse ++ st) h := by
  obtain ⟨i1, hi1⟩ := m_ccs (m_own mi) _ (m_lookup hk)
  simp only [m_cc1, Bool.and_eq_true, decide_eq_true_eq] at hi1
  obtain ⟨hmj, hlink⟩ := hi1
  have hlink := m_pg_ok hlink
  obtain ⟨ps, hps⟩ := m_mcs hmj
  simp only [m_mchk, hkind, Bool.and_eq_true, decide_eq_true_eq] at hps
  obtain ⟨⟨⟨⟨⟨⟨⟨hcode, hkd⟩, hini⟩, hcls⟩, hmh⟩, hvh⟩, hdesc⟩, hplain⟩ := hps
  have hcode := m_pg_ok hcode
  have hini := m_pg_ok hini
  have hkd := m_pg_ok hkd
  have hdd : ∀ sig, parseMethodDescriptor (m_y mj).desc = some sig → m_narg mj = sig.parameters.length := by
    intro sig hsig
    rw [hsig] at hdesc
    exact (Option.some.inj hdesc).symm
  refine g_call (arr := fun A => (av.map (m_val A b)).toArray) hS hmi hmj hav hlen hvr hpr hrun hback (fun h9 w hw => h9 w (List.mem_append_right _ hw)) ?_
  intro p e R s m args below meth c A H locs cells slots lsA hC hW hSS hok9 hsz hc1 hc2
  obtain ⟨c1, c2, c3, c4, c5, c6, c7, c8, c9, c10, c11, c12, c13, c14, c15⟩ := hC
  have hM := m_met (A := A) hS hrun hmj hcat hav (hov hok9) hl
  have hpre := m_pre (av := av) hW hSS c11 c12 c13
  have hcat8 : ((st.map (m_val A b)).map fun v => v.category).sum ≤ 8 := by rw [m_cat_sum]; exact hst8
  have hstack : (av.reverse ++ st).map (m_val A b) = (av.map (m_val A b)).reverse ++ st.map (m_val A b) := by rw [List.map_append, List.map_reverse]
  by_cases hh : m_hand mj = []
  · have hcw : m_cw mj = Cond.code (m_y mj) (m_cc mj) (m_maxL mj) (m_ret mj) := if_pos hh
    refine vx_runS (cc := m_cc mi) (nL := m_maxL mi) (Ts := lw_good) (own := m_cn (m_own mi)) (bytes := m_cc mj) (maxL := m_maxL mj) (ret := m_ret mj) (n := m_narg mj) (As := av.map (m_val A b)) ⟨c1, c2, c3, c4, c5⟩ hM
      ⟨⟨rfl, rfl, by show m_frs mj + 1 ≤ R.frames; omega, by show 8 + (m_maxL mj + 11) + m_loc mj ≤ R.locals; omega, pay_in c5 (m_good_cons hcode), by rw [hcw]; exact List.mem_cons_self, by rw [← hcw]; exact c5 _ hcode, c5 _ hini, ⟨hmh, hvh⟩, hdd, c5 _ hlink⟩, c5 _ hkd⟩ ⟨m_Pc_blind, hpre⟩ rfl (by rw [List.length_map]; exact hn) hsz hstack (lv_room hcat8) hd ⟨hc1, hc2⟩
  · have hcw : m_cw mj = Cond.codeWith (m_y mj) (m_cc mj) (m_maxL mj) (m_ret mj) (m_h4 mj) := if_neg hh
    refine vx_runSX (hh := m_h4 mj) (cc := m_cc mi) (nL := m_maxL mi) (Ts := lw_good) (own := m_cn (m_own mi)) (bytes := m_cc mj) (maxL := m_maxL mj) (ret := m_ret mj) (n := m_narg mj) (As := av.map (m_val A b)) ⟨c1, c2, c3, c4, c5⟩ hM
      ⟨⟨rfl, rfl, by show m_frs mj + 1 ≤ R.frames; omega, by show 8 + (m_maxL mj + 11) + m_loc mj ≤ R.locals; omega, pay_in c5 (m_good_cons hcode), by rw [hcw]; exact List.mem_cons_self⟩, by rw [← hcw]; exact c5 _ hcode, c5 _ hini, ⟨hmh, hvh⟩, hdd, c5 _ hlink, c5 _ hkd⟩ ⟨m_Pc_blind, hpre⟩ rfl (by rw [List.length_map]; exact hn) hsz hstack (lv_room hcat8) hd ⟨hc1, hc2⟩
theorem g_invv {n k mj z : Nat} (hS : m_SND D Y b A0 xs L l n) {av : List MV} {h1 : MHp} {o1 : MOut} (hd : decode (m_cc mi) pc = .ok (.invokevirtual k, 3)) (hk : cR (m_own mi) k = some (1, mj)) (hkind : m_kind mj = 1) (htag : m_tag h z = some (m_own mj)) (hn : av.length = m_narg mj) (hfr : m_frs mj + 1 ≤ m_frs mi ∧ 19 + m_maxL mj + m_loc mj ≤ m_loc mi) (hcat : ∀ v ∈ av, m_cat v = 1) (hav : (vR z :: av).length ≤ m_maxL mj) (hst8 : (st.map m_cat).sum ≤ 8) (hl : l.stackTraces = false)
    (hmi : mi < 178) (hlen : ls.length = m_maxL mi) (hvr : m_vl mi r) (hpr : r ≠ [] → m_pc r = pc + 3) (hrun : m_run xs L n mj (m_entry mj (vR z :: av) h) = some (o1, h1)) (hback : m_back (m_run xs L n) mi pc r ls st (o1, h1) = some (o, h')) :
    m_G D Y b A0 xs L l o h' mi ((pc, .invokevirtual k) :: r) ls (av.reverse ++ vR z :: st) h := by
  obtain ⟨i1, hi1⟩ := m_ccs (m_own mi) _ (m_lookup hk)
  simp only [m_cc1, Bool.and_eq_true, decide_eq_true_eq] at hi1
  obtain ⟨hmj, hlink⟩ := hi1
  have hlink := m_pg_ok hlink
  obtain ⟨ps, hps⟩ := m_mcs hmj
  simp only [m_mchk, hkind, Bool.and_eq_true, decide_eq_true_eq] at hps
  obtain ⟨⟨⟨⟨⟨⟨⟨hcode, hkd⟩, hini⟩, hcls⟩, hmh⟩, hvh⟩, hdesc⟩, hplain⟩ := hps
  have hcode := m_pg_ok hcode
  have hini := m_pg_ok hini
  have hkd1 := m_pg_ok hkd.1
  have hkd2 := m_pg_ok hkd.2
  obtain ⟨-, hr2, -⟩ := m_ret2 mj hmj
  obtain ⟨hown11, hh⟩ := hr2 hkind
  have hdd : ∀ sig, parseMethodDescriptor (m_y mj).desc = some sig → m_narg mj = sig.parameters.length := by
    intro sig hsig
    rw [hsig] at hdesc
    exact (Option.some.inj hdesc).symm
  have hz : ∃ c, h.1[z]? = some c ∧ c.1 = m_own mj := by
    unfold m_tag at htag
    split at htag
    · rename_i c hc
      exact ⟨c, hc, Option.some.inj htag⟩
    · cases htag
  obtain ⟨cz, hcz, hczt⟩ := hz
  refine g_call (arr := fun A => ((vR z :: av).map (m_val A b)).toArray) hS hmi hmj hav hlen hvr hpr hrun hback (fun h9 w hw => h9 w (List.mem_append_right _ (List.mem_cons_of_mem _ hw))) ?_
  intro p e R s m args below meth c A H locs cells slots lsA hC hW hSS hok9 hsz hc1 hc2
  obtain ⟨c1, c2, c3, c4, c5, c6, c7, c8, c9, c10, c11, c12, c13, c14, c15⟩ := hC
  have hM := m_met (A := A) hS hrun hmj (fun v hv => by
    rcases List.mem_cons.mp hv with rfl | hv
    · rfl
    · exact hcat v hv) hav (fun v hv => by
    rcases List.mem_cons.mp hv with rfl | hv
    · exact hok9 _ (List.mem_append_right _ List.mem_cons_self)
    · exact hok9 v (List.mem_append_left _ (List.mem_reverse.mpr hv))) hl
  have hpre := m_pre (av := vR z :: av) hW hSS c11 c12 c13
  have hcat8 : ((st.map (m_val A b)).map fun v => v.category).sum ≤ 8 := by rw [m_cat_sum]; exact hst8
  have hstack : (av.reverse ++ vR z :: st).map (m_val A b) = (av.map (m_val A b)).reverse ++ .ref (A.getD z 0) :: st.map (m_val A b) := by rw [List.map_append, List.map_reverse]; rfl
  have hcw : m_cw mj = Cond.code (m_y mj) (m_cc mj) (m_maxL mj) (m_ret mj) := if_pos hh
  have hec := hW.get hcz
  rw [m_ent_obj (by omega), hczt] at hec
  have h11 : ∀ k : Nat, k < 11 → (vwCl[k]?).map (fun q => q.1) = some (m_cn k) := by decide
  have h12 := h11 _ hown11
  cases hcl : vwCl[m_own mj]? with
  | none => rw [hcl] at h12; cases h12
  | some q =>
    rw [hcl] at h12
    have h13 : q.1 = m_cn (m_own mj) := Option.some.inj h12
    have hrecv := va_recv c11 hW.2.2.1 hcl hec
    rw [h13, ← hcls] at hrecv
    exact vx_runV (cc := m_cc mi) (nL := m_maxL mi) (Ts := lw_good) (own := m_cn (m_own mi)) (bytes := m_cc mj) (maxL := m_maxL mj) (ret := m_ret mj) (n := m_narg mj) (As := av.map (m_val A b)) (b := A.getD z 0) (C := (m_y mj).cls) ⟨c1, c2, c3, c4, c5⟩ hM
      ⟨⟨rfl, rfl, by show m_frs mj + 1 ≤ R.frames; omega, by show 8 + (m_maxL mj + 11) + m_loc mj ≤ R.locals; omega, pay_in c5 (m_good_cons hcode), by rw [hcw]; exact List.mem_cons_self, by rw [← hcw]; exact c5 _ hcode, c5 _ hini, ⟨hmh, hvh⟩, hdd, c5 _ hlink⟩, c5 _ hkd1, c5 _ hkd2⟩ ⟨m_Pc_blind, hrecv, hpre⟩ rfl (by rw [List.length_map]; exact hn) hsz hstack (lv_room hcat8) hd ⟨hc1, hc2⟩
theorem g_invi {n k mj z kd : Nat} (hS : m_SND D Y b A0 xs L l n) {av : List MV} {h1 : MHp} {o1 : MOut} (hd : decode (m_cc mi) pc = .ok (.invokespecial k, 3)) (hk : cR (m_own mi) k = some (kd, mj)) (hkd9 : kd = 1 ∨ kd = 5) (hkind : m_kind mj = 2) (hn : av.length = m_narg mj) (hfr : m_frs mj + 1 ≤ m_frs mi ∧ 19 + m_maxL mj + m_loc mj ≤ m_loc mi) (hcat : ∀ v ∈ av, m_cat v = 1) (hav : (vR z :: av).length ≤ m_maxL mj) (hst8 : (st.map m_cat).sum ≤ 8) (hl : l.stackTraces = false)
    (hmi : mi < 178) (hlen : ls.length = m_maxL mi) (hvr : m_vl mi r) (hpr : r ≠ [] → m_pc r = pc + 3) (hrun : m_run xs L n mj (m_entry mj (vR z :: av) h) = some (o1, h1)) (hback : m_back (m_run xs L n) mi pc r ls st (o1, h1) = some (o, h')) :
    m_G D Y b A0 xs L l o h' mi ((pc, .invokespecial k) :: r) ls (av.reverse ++ vR z :: st) h := by
  obtain ⟨i1, hi1⟩ := m_ccs (m_own mi) _ (m_lookup hk)
  have hi2 : mj < 177 := by
    rcases hkd9 with rfl | rfl
    · simp only [m_cc1, Bool.and_eq_true, decide_eq_true_eq] at hi1; exact hi1.1
    · simp only [m_cc1, Bool.and_eq_true, decide_eq_true_eq] at hi1; exact hi1.1
  have hmj := hi2
  obtain ⟨ps, hps⟩ := m_mcs hmj
  simp only [m_mchk, hkind, Bool.and_eq_true, decide_eq_true_eq] at hps
  obtain ⟨⟨⟨⟨⟨⟨⟨hcode, hkd⟩, hini⟩, hcls⟩, hmh⟩, hvh⟩, hdesc⟩, hplain⟩ := hps
  have hcode := m_pg_ok hcode
  have hini := m_pg_ok hini
  have hkd1 := m_pg_ok hkd.1
  obtain ⟨hr2, -, -⟩ := m_ret2 mj hmj
  obtain ⟨hret, hh⟩ := hr2 hkind
  have hdd : ∀ sig, parseMethodDescriptor (m_y mj).desc = some sig → m_narg mj = sig.parameters.length := by
    intro sig hsig
    rw [hsig] at hdesc
    exact (Option.some.inj hdesc).symm
  refine g_call (arr := fun A => ((vR z :: av).map (m_val A b)).toArray) hS hmi hmj hav hlen hvr hpr hrun hback (fun h9 w hw => h9 w (List.mem_append_right _ (List.mem_cons_of_mem _ hw))) ?_
  intro p e R s m args below meth c A H locs cells slots lsA hC hW hSS hok9 hsz hc1 hc2
  obtain ⟨c1, c2, c3, c4, c5, c6, c7, c8, c9, c10, c11, c12, c13, c14, c15⟩ := hC
  have hM := m_met (A := A) hS hrun hmj (fun v hv => by
    rcases List.mem_cons.mp hv with rfl | hv
    · rfl
    · exact hcat v hv) hav (fun v hv => by
    rcases List.mem_cons.mp hv with rfl | hv
    · exact hok9 _ (List.mem_append_right _ List.mem_cons_self)
    · exact hok9 v (List.mem_append_left _ (List.mem_reverse.mpr hv))) hl
  have hpre := m_pre (av := vR z :: av) hW hSS c11 c12 c13
  have hcat8 : ((st.map (m_val A b)).map fun v => v.category).sum ≤ 8 := by rw [m_cat_sum]; exact hst8
  have hstack : (av.reverse ++ vR z :: st).map (m_val A b) = (av.map (m_val A b)).reverse ++ .ref (A.getD z 0) :: st.map (m_val A b) := by rw [List.map_append, List.map_reverse]; rfl
  have hcw : m_cw mj = Cond.code (m_y mj) (m_cc mj) (m_maxL mj) none := by rw [m_cw, if_pos hh, hret]
  rcases hkd9 with rfl | rfl
  · simp only [m_cc1, Bool.and_eq_true, decide_eq_true_eq] at hi1
    exact vx_runI (cc := m_cc mi) (nL := m_maxL mi) (Ts := lw_good) (own := m_cn (m_own mi)) (bytes := m_cc mj) (maxL := m_maxL mj) (n := m_narg mj) (As := av.map (m_val A b)) (b := A.getD z 0) ⟨c1, c2, c3, c4, c5⟩ hM
      ⟨⟨rfl, rfl, by show m_frs mj + 1 ≤ R.frames; omega, by show 8 + (m_maxL mj + 11) + m_loc mj ≤ R.locals; omega, pay_in c5 (m_good_cons hcode), by rw [hcw]; exact List.mem_cons_self, by rw [← hcw]; exact c5 _ hcode, c5 _ hini, ⟨hmh, hvh⟩, hdd, c5 _ (m_pg_ok hi1.2)⟩, hkd.2, c5 _ hkd1⟩ ⟨m_Pc_blind, hpre⟩ rfl (by rw [List.length_map]; exact hn) hsz hstack (lv_room hcat8) hd ⟨hc1, hc2⟩
  · simp only [m_cc1, Bool.and_eq_true, decide_eq_true_eq] at hi1
    exact vx_runIN (host := "Throughcoach") (cc := m_cc mi) (nL := m_maxL mi) (Ts := lw_good) (own := m_cn (m_own mi)) (bytes := m_cc mj) (maxL := m_maxL mj) (n := m_narg mj) (As := av.map (m_val A b)) (b := A.getD z 0) ⟨c1, c2, c3, c4, c5⟩ hM
      ⟨⟨⟨rfl, rfl, by show m_frs mj + 1 ≤ R.frames; omega, by show 8 + (m_maxL mj + 11) + m_loc mj ≤ R.locals; omega, pay_in c5 (m_good_cons hcode), by rw [hcw]; exact List.mem_cons_self⟩, by rw [← hcw]; exact c5 _ hcode, c5 _ hini, ⟨hmh, hvh⟩, hdd, va_Nw.use rfl (c12.2.2.2.1 _ (m_pb_ok hi1.2))⟩, hkd.2, c5 _ hkd1⟩ ⟨m_Pc_blind, hpre⟩ rfl (by rw [List.length_map]; exact hn) hsz hstack (lv_room hcat8) hd ⟨hc1, hc2⟩
/-- 'throw new E("..")' -/
theorem g_throw {ik is ic ex : Nat} {li : Instr} {nl : Nat} (hd : decode (m_cc mi) pc = .ok (.new ik, 3)) (hk : kR (m_own mi) ik = some (1, ex)) (hic : cR (m_own mi) ic = some (4, ex)) (his : (sR (m_own mi) is).isSome = true) (hst8 : (st.map m_cat).sum ≤ 8)
    (hli : (li = .ldc is ∧ nl = 2) ∨ (li = .ldc_w is ∧ nl = 3)) (d3 : decode (m_cc mi) (pc + 3) = .ok (.dup, 1)) (d4 : decode (m_cc mi) (pc + 4) = .ok (li, nl)) (d6 : decode (m_cc mi) (pc + 4 + nl) = .ok (.invokespecial ic, 3)) (d9 : decode (m_cc mi) (pc + 4 + nl + 3) = .ok (.athrow, 1)) (hfr : 6 ≤ m_frs mi ∧ 90 ≤ m_loc mi) (hh : m_hand mi = []) (hlen : ls.length = m_maxL mi) (hl : l.stackTraces = false) :
    m_G D Y b A0 xs L l (.inr ex) (h.1, h.2.1 + 1, h.2.2 + 6) mi ((pc, .new ik) :: r) ls st h := by
  obtain ⟨ho9, hex, hat⟩ := m_exc hic
  obtain ⟨i1, hi1⟩ := m_kcs (m_own mi) _ (m_lookup hk)
  simp only [m_kc, Bool.and_eq_true, decide_eq_true_eq] at hi1
  have hlink := m_pg_ok hi1.2
  obtain ⟨js, hjs⟩ := Option.isSome_iff_exists.mp his
  have hjm := m_lookup hjs
  rw [ho9] at hlink hjm
  have hstr : ∃ q ∈ tT, q.1 = 9 ∧ q.2.1 = is := by
    have h1 : ∀ e ∈ tS.getD 9 [], ∃ q ∈ tT, q.1 = 9 ∧ q.2.1 = e.1 := by decide
    exact h1 _ hjm
  obtain ⟨⟨t1, t2, tx⟩, htm, rfl, rfl⟩ := hstr
  have hini : Cond.initialized (eN ex) ∈ lw_good := by
    rcases (show ex = 0 ∨ ex = 1 ∨ ex = 2 by omega) with rfl | rfl | rfl
    · exact ew_0.1
    · exact ew_1.1
    · exact ew_2.1
  have hfit : Bundle.fit (eN ex) = true := by
    rcases (show ex = 0 ∨ ex = 1 ∨ ex = 2 by omega) with rfl | rfl | rfl <;> decide +kernel
  refine ⟨Nat.le_succ _, Nat.le_add_right _ _, ?_⟩
  intro p e R s m args below meth c hC A H locs z1 z2 lsA Q hT hE
  obtain ⟨t1, t2', t3, t4, t5, t6, t7, t8, t9, t10⟩ := id hT
  obtain ⟨c1, c2, c3, c4, c5, c6, c7, c8, c9, c10, c11, c12, c13, c14, c15⟩ := hC
  obtain ⟨h177, Qc, XC, mc, ms, rfl, g2, g3, g4⟩ := hE.2 ex rfl
  have c8 := c8 h177
  have g2 : h.2.1 + 1 - z1 ≤ mc := g2
  have g3 : h.2.2 + 6 - z2 ≤ ms := g3
  have t9 : h.2.1 + 1 - z1 ≤ R.cells := t9
  have t10 : h.2.2 + 6 - z2 ≤ R.slots := t10
  rw [ho9] at c4
  obtain ⟨sa, hsa⟩ := c12.2.2.1 _ htm
  have hnames : ∀ n ∈ ["java/lang/RuntimeException", "java/lang/Exception"], Bundle.fit n = true := by decide +kernel
  have hatb : ∀ w ∈ vx_atS RX9 ic (eN ex) ["java/lang/RuntimeException", "java/lang/Exception"], w.before args s = true := by
    intro w hw
    rcases (hat w hw).1 with h9 | h9
    · exact c5 w h9
    · exact va_Nw.use h9.2 (c12.2.2.2.1 w h9.1)
  have hgood : ∀ w ∈ Cond.classLink RX9 ik (eN ex) :: Cond.initialized (eN ex) :: vx_atS RX9 ic (eN ex) ["java/lang/RuntimeException", "java/lang/Exception"], vx_ot w = true := by
    intro w hw
    rcases List.mem_cons.mp hw with rfl | hw
    · rfl
    · rcases List.mem_cons.mp hw with rfl | hw
      · rfl
      · exact (hat w hw).2
  have hout : ∀ k : Nat, ∀ x ∈ c.exceptionTable.toList, covers x k = false := by
    intro k x hx
    rw [c8, m_h4, hh] at hx
    cases hx
  have hcat8 : ((st.map (m_val A b)).map fun v => v.category).sum ≤ 8 := by rw [m_cat_sum]; exact hst8
  have hx : ∀ t : State, s.vm.Alike t.vm → H.size ≤ t.heap.size → (∀ q : Nat, q < H.size → t.heap[q]? = H[q]?) → XC (eN ex) s t := by
    intro t ha hz hq
    refine g4 [] t ?_ ha ⟨Nat.le_trans t4.1 hz, fun q h1 h2 => ?_⟩
    · rw [List.append_nil]
      exact m_W.kept (h := h) t3 hq
    · rw [hq q (Nat.lt_of_lt_of_le h1 t4.1)]
      exact t4.2.1 q h1 h2
  rcases hli with ⟨rfl, rfl⟩ | ⟨rfl, rfl⟩
  · exact vx_throwS (names := ["java/lang/RuntimeException", "java/lang/Exception"]) c1 c2 hl c4 hfit hnames (c5 _ hlink) (c5 _ hini) hsa hatb hgood c12.1 c12.2.1 t4 (by rw [t7.1, hlen, c3]) hd d3 d4 d6 d9 (hout _) (by show 2 + 3 < R.frames; omega) (by show _ + (13 * (2 + 1) + 43) ≤ R.locals; omega) (by omega) (by omega) c6 hx t4.2.2 (by omega) (by omega)
  · exact vx_throwSW (names := ["java/lang/RuntimeException", "java/lang/Exception"]) c1 c2 hl c4 hfit hnames (c5 _ hlink) (c5 _ hini) hsa hatb hgood c12.1 c12.2.1 t4 (by rw [t7.1, hlen, c3]) hd d3 d4 d6 d9 (hout _) (by show 2 + 3 < R.frames; omega) (by show _ + (13 * (2 + 1) + 43) ≤ R.locals; omega) (by omega) (by omega) c6 hx t4.2.2 (by omega) (by omega)
end G
