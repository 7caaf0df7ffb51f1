/-! ===== a run of the small machine is a contract; calls, throws, handlers ===== -/
theorem m_pc0 : ∀ mi, mi < 178 → m_pc (m_code mi) = 0 := by decide +kernel
theorem m_hd0 : ∀ mi, mi < 178 → (m_hand mi).all (fun q => decide (kR (m_own mi) q.2.2.2.1 = some (1, q.2.2.2.2)) && decide (q.2.2.2.1 ≠ 0) && decide (q.2.2.2.2 < 3)) = true := by decide +kernel
theorem m_run_nil (xs : Nat → Int32) (L mi : Nat) (ls st : List MV) (h : MHp) : ∀ n, m_run xs L n mi ([], ls, st, h) = none
  | 0 => rfl
  | n + 1 => rfl
section G
variable {D : va_G} {Y : Nat → ClassId} {b : Nat} {A0 : Nat → Prop} {xs : Nat → Int32} {L : Nat} {l : Launch}
def m_SND (D : va_G) (Y : Nat → ClassId) (b : Nat) (A0 : Nat → Prop) (xs : Nat → Int32) (L : Nat) (l : Launch) (n : Nat) : Prop := ∀ (mi : Nat) (cd : MCode) (ls st : List MV) (h h' : MHp) (o : MOut), m_run xs L n mi (cd, ls, st, h) = some (o, h') → mi < 178 → m_vl mi cd → ls.length = m_maxL mi → m_G D Y b A0 xs L l o h' mi cd ls st h
def m_Pc (D : va_G) (Y : Nat → ClassId) (b : Nat) (A0 : Nat → Prop) (xs : Nat → Int32) (L : Nat) (av : List MV) (h : MHp) (A : List Nat) : Array Value → State → Prop := va_Pc (av.map (m_val A b)) (fun U => m_W D Y b A0 A h U.heap ∧ va_K D vwCl (m_tys Y) U ∧ m_X xs L b A0 U U.heap ∧ ∀ q : Nat, U.heap.size ≤ q → A0 q)
def m_Qc (D : va_G) (Y : Nat → ClassId) (b : Nat) (A0 : Nat → Prop) (A : List Nat) (o : MOut) (h' : MHp) : Array Value → State → Outcome → State → Prop := fun _ st oc t => ∃ (v : Option MV) (X : List Nat), o = .inl v ∧ oc = .returned (v.map (m_val (A ++ X) b)) ∧ (∀ w, v = some w → m_okV h'.1.length w) ∧ m_W D Y b A0 (A ++ X) h' t.heap ∧ va_F A0 st t
def m_XC (D : va_G) (Y : Nat → ClassId) (b : Nat) (A0 : Nat → Prop) (A : List Nat) (o : MOut) (h' : MHp) : String → State → State → Prop := fun E st t => ∃ (k : Nat) (X : List Nat), o = .inr k ∧ E = eN k ∧ m_W D Y b A0 (A ++ X) h' t.heap ∧ va_F A0 st t
theorem m_Pc_blind {av : List MV} {h : MHp} {A : List Nat} : FrameBlind (m_Pc D Y b A0 xs L av h A) := by
  intro a U g mk hp
  obtain ⟨h1, h2, h3, h4, h5⟩ := hp
  exact ⟨h1, h2, va_K.moved (u := U) (U := U.calling g mk a) (Vm.Alike.refl U.vm) h3, h4.call, h5⟩
theorem m_met {n mj : Nat} {av : List MV} {h h' : MHp} {o : MOut} {A : List Nat} (hS : m_SND D Y b A0 xs L l n) (hrun : m_run xs L n mj (m_entry mj av h) = some (o, h')) (hmj : mj < 177) (hcat : ∀ v ∈ av, m_cat v = 1) (hav : av.length ≤ m_maxL mj) (hok : m_okL h.1.length av) (hl : l.stackTraces = false) :
    vx_Met l (m_y mj) (m_cw mj :: lw_good) ({ frames := m_frs mj, cells := h'.2.1 - h.2.1, slots := h'.2.2 - h.2.2, locals := m_loc mj }) (m_Pc D Y b A0 xs L av h A) (m_Qc D Y b A0 A o h') (m_XC D Y b A0 A o h') (h'.2.1 - h.2.1) (h'.2.2 - h.2.2) A0 := by
  obtain ⟨ps, hps⟩ := m_mcs hmj
  simp only [m_mchk, Bool.and_eq_true, decide_eq_true_eq] at hps
  obtain ⟨⟨⟨⟨⟨⟨⟨hcode, hkind⟩, hini⟩, hcls⟩, hmh⟩, hvh⟩, hdesc⟩, hplain⟩ := hps
  have hG := hS mj (m_code mj) (av ++ List.replicate (m_maxL mj - av.length) vU) [] h h' o hrun (by omega) (m_vlc (by omega)) (by simp; omega)
  have body : ∀ (p : Program) (e : Env) (s : State) (m : MethodId) (args : Array Value) (below : List Frame) (meth : Method) (c : Code) (s₁ : State), BodyLoose p l (m_y mj) (headSpec (m_cw mj :: lw_good) ({ frames := m_frs mj, cells := h'.2.1 - h.2.1, slots := h'.2.2 - h.2.2, locals := m_loc mj })) (m_cc mj) (m_maxL mj) (m_ret mj) e s m args below meth c s₁ → c.maxLocals = m_maxL mj → c.exceptionTable.toList = tableOf (m_h4 mj) → m_Pc D Y b A0 xs L av h A args s →
      W p l e ({ frames := m_frs mj, cells := h'.2.1 - h.2.1, slots := h'.2.2 - h.2.2, locals := m_loc mj }) s m args below meth c s.heap [] 0 0 (vx_MQ below (m_Qc D Y b A0 A o h') (m_XC D Y b A0 A o h') args s (h'.2.1 - h.2.1) (h'.2.2 - h.2.2) A0) (entryFrame m args (m_maxL mj)) := by
    intro p e s m args below meth c s₁ B hml htab hv
    obtain ⟨rfl, hW, hK, hX, hA⟩ := hv
    have hts := atoms_spec (ws := m_cw mj :: lw_good) B.pre
    have hC : m_C D Y b A0 xs L p l ({ frames := m_frs mj, cells := h'.2.1 - h.2.1, slots := h'.2.2 - h.2.2, locals := m_loc mj }) s m (av.map (m_val A b)).toArray meth c mj :=
      ⟨B.exec, B.bytes, hml, by rw [← hcls]; exact findClass_of_methodNamed B.named, fun w hw => hts w (List.mem_cons_of_mem _ hw), B.notSynchronized, B.returns, fun _ => htab, fun _ => (name_of_methodNamed B.named B.method).1, hl, hK, hX, hA, Nat.le_refl _, Nat.le_refl _⟩
    have hAl : A.length = h.1.length := hW.1
    have hL := m_L.entry (A := A) (b := b) hcat hav
    rw [lg_entry_eq]
    generalize (lg_sl (av.map (m_val A b)) ++ List.replicate (m_maxL mj - (lg_sl (av.map (m_val A b))).length) Slot.unset).toArray = lsA at hL ⊢
    have hT : m_ST D Y b A0 ({ frames := m_frs mj, cells := h'.2.1 - h.2.1, slots := h'.2.2 - h.2.2, locals := m_loc mj }) s mj h' (av ++ List.replicate (m_maxL mj - av.length) vU) [] h A s.heap [] h.2.1 h.2.2 lsA := by
      refine ⟨Nat.le_refl _, Nat.le_refl _, hW, va_S.rf, fun v hv => ?_, fun v hv => (by cases hv), hL, by simp; omega, Nat.le_refl _, Nat.le_refl _⟩
      rcases List.mem_append.mp hv with h1 | h1
      · exact hok v h1
      · rw [(List.mem_replicate.mp h1).2]; trivial
    have k := hG.2.2 p e _ s m _ below meth c hC A s.heap [] h.2.1 h.2.2 lsA (vx_MQ below (m_Qc D Y b A0 A o h') (m_XC D Y b A0 A o h') (av.map (m_val A b)).toArray s (h'.2.1 - h.2.1) (h'.2.2 - h.2.2) A0) hT ?_
    · rw [Nat.sub_self, Nat.sub_self, m_pc0 mj (by omega)] at k
      exact k
    · refine ⟨fun v hv X H' locs' pc' lsA' w1 w2 w3 w4 => ?_, fun E hE => ⟨hmj, _, _, _, _, rfl, Nat.le_refl _, Nat.le_refl _, fun X t w1 w2 w3 => ⟨E, X, hE, rfl, w1, w3⟩⟩⟩
      refine vx_ret ?_
      rcases w4 with ⟨a, rfl, ht, hd⟩ | ⟨x, rfl, ht, hd⟩ | ⟨q, nn, rfl, ht, hd⟩ | ⟨rfl, ht, hd⟩
      · rcases ht with ht | ⟨ht, ha⟩
        · exact W.iret (v := Int32.ofInt a) B.exec B.bytes (by rw [B.returns]; exact ht) (fun t h1 h2 => ⟨some (vI a), X, hv, rfl, w3, by rw [h1]; exact w1, w2.F h1⟩) w2.2.2 hd B.notSynchronized
        · exact W.zret (v := Int32.ofInt a) (ty := .boolean) B.exec B.bytes (by rw [B.returns]; exact ht) (by rcases ha with rfl | rfl <;> rfl) (fun t h1 h2 => ⟨some (vI a), X, hv, rfl, w3, by rw [h1]; exact w1, w2.F h1⟩) w2.2.2 hd B.notSynchronized
      · exact W.fret (v := x) B.exec B.bytes (by rw [B.returns]; exact ht) (fun t h1 h2 => ⟨some (vF x), X, hv, rfl, w3, by rw [h1]; exact w1, w2.F h1⟩) w2.2.2 hd B.notSynchronized
      · exact W.aret (v := .ref ((A ++ X).getD q 0)) (rt := .object nn) B.exec B.bytes (by rw [B.returns]; exact ht) (Or.inl ⟨nn, rfl⟩) (Or.inr ⟨_, rfl⟩) (fun t h1 h2 => ⟨some (vR q), X, hv, rfl, w3, by rw [h1]; exact w1, w2.F h1⟩) w2.2.2 hd B.notSynchronized
      · exact W.vret B.exec B.bytes (by rw [B.returns]; exact ht) (fun t h1 h2 => ⟨none, X, hv, rfl, w3, by rw [h1]; exact w1, w2.F h1⟩) w2.2.2 hd B.notSynchronized
  by_cases hh : m_hand mj = []
  · refine vx_ofW (cc := m_cc mj) (maxL := m_maxL mj) (ret := m_ret mj) (ws' := lw_good) hplain (by rw [m_cw, if_pos hh]) ?_
    intro p e s m args below meth c s₁ B hml htab hv
    refine body p e s m args below meth c s₁ B hml ?_ hv
    rw [m_h4, hh]
    cases hx : c.exceptionTable.toList with
    | nil => rfl
    | cons x t => exact (htab x (by rw [hx]; exact List.mem_cons_self)).elim
  · refine vx_ofWH (cc := m_cc mj) (maxL := m_maxL mj) (ret := m_ret mj) (hh := m_h4 mj) (ws' := lw_good) hplain (by rw [m_cw, if_neg hh]) ?_
    intro p e s m args below meth c s₁ B hml hv
    refine body p e s m args below meth c s₁ B hml (vx_table (x := m_y mj) B (atoms_spec (ws := m_cw mj :: lw_good) B.pre _ (by rw [m_cw, if_neg hh]; exact List.mem_cons_self))) hv
end G
section G
variable {D : va_G} {Y : Nat → ClassId} {b : Nat} {A0 : Nat → Prop} {xs : Nat → Int32} {L : Nat} {l : Launch} {o : MOut} {h' : MHp} {mi : Nat} {pc : Nat} {r : MCode} {ls st : List MV} {h : MHp}
theorem m_len_ext {A : List Nat} {h : MHp} {H : Heap} {X : List Nat} {h1 : MHp} {H1 : Heap} (hW : m_W D Y b A0 A h H) (hW1 : m_W D Y b A0 (A ++ X) h1 H1) : h.1.length ≤ h1.1.length := by
  have e1 := hW.1
  have e2 := hW1.1
  rw [List.length_append] at e2
  omega
/-- behind a call that threw k: on to the caller, or into a handler of this method -/
theorem g_thrown {n : Nat} (hS : m_SND D Y b A0 xs L l n) {h1 : MHp} {k : Nat} (hmi : mi < 178) (hlen : ls.length = m_maxL mi) (hback : m_back (m_run xs L n) mi pc r ls st (.inr k, h1) = some (o, h')) : h1.2.1 ≤ h'.2.1 ∧ h1.2.2 ≤ h'.2.2 ∧
    ∀ (p : Program) (e : Env) (R : Room) (s : State) (m : MethodId) (args : Array Value) (below : List Frame) (meth : Method) (c : Code), m_C D Y b A0 xs L p l R s m args meth c mi →
    ∀ (A : List Nat) (H : Heap) (locs : List Loc) (z1 z2 : Nat) (lsA : Array Slot) (Q : State → Prop), z1 ≤ h1.2.1 → z2 ≤ h1.2.2 → m_W D Y b A0 A h1 H → va_S A0 s.heap H locs → m_okL h1.1.length ls → m_L A b ls lsA → h'.2.1 - z1 ≤ R.cells → h'.2.2 - z2 ≤ R.slots → m_EN D Y b A0 p l e R s m args below meth c mi o h' A z1 z2 Q →
      ∀ (ce : Cell) (q : Addr) (rest : List Value), H[q]? = some ce → ce.vm = .none → s.vm.findClass (eN k) = some ce.cls → vx_W p l e R s m args below meth c H locs (h1.2.1 - z1) (h1.2.2 - z2) Q (F0 m pc lsA rest) q := by
  unfold m_back at hback
  simp only at hback
  by_cases hh : m_hand mi = []
  · rw [if_pos hh] at hback
    cases hback
    refine ⟨Nat.le_refl _, Nat.le_refl _, ?_⟩
    intro p e R s m args below meth c hC A H locs z1 z2 lsA Q t1 t2 hW hSS hok hL hc1 hc2 hE ce q rest hcell hv hcl
    obtain ⟨h177, Qc, XC, mc, ms, rfl, g2, g3, g4⟩ := hE.2 k rfl
    obtain ⟨-, -, -, -, -, c6, -, c8, -⟩ := hC
    have c8 := c8 h177
    refine vx_out (fun x hx => ?_) c6 hcell hv hcl (fun t ht hA => g4 [] t (by rw [List.append_nil, ht]; exact hW) hA (hSS.F ht)) hSS.2.2 g2 g3
    rw [c8, m_h4, hh] at hx
    cases hx
  · rw [if_neg hh] at hback
    split at hback
    · rename_i c2 hc2
      unfold m_catch at hc2
      split at hc2
      · rename_i q9 hq9
        obtain ⟨hq1, as, bs, hsplit, has⟩ := List.find?_eq_some_iff_append.mp hq9
        simp only [decide_eq_true_eq] at hq1
        have hall := List.all_eq_true.mp (m_hd0 mi hmi)
        have hqm : q9 ∈ m_hand mi := by rw [hsplit]; simp
        have hfact : ∀ z ∈ m_hand mi, kR (m_own mi) z.2.2.2.1 = some (1, z.2.2.2.2) ∧ z.2.2.2.1 ≠ 0 ∧ z.2.2.2.2 < 3 := by
          intro z hz
          have := hall z hz
          simp only [Bool.and_eq_true, decide_eq_true_eq] at this
          exact ⟨this.1.1, this.1.2, this.2⟩
        have hlink : ∀ z ∈ m_hand mi, Cond.classLink (m_cn (m_own mi)) z.2.2.2.1 (eN z.2.2.2.2) ∈ lw_good := by
          intro z hz
          obtain ⟨i1, hi1⟩ := m_kcs (m_own mi) _ (m_lookup (hfact z hz).1)
          simp only [m_kc, Bool.and_eq_true, decide_eq_true_eq] at hi1
          exact m_pg_ok hi1.2
        have hblk := m_blk_ok hmi q9.2.2.1
        -- the handler's first instruction is its astore
        have key : ∀ (kk : Nat) (i9 : Instr) (ln : Nat) (p9 : Nat) (r9 : MCode), m_blk mi q9.2.2.1 = (p9, i9) :: r9 → c2 = (r9, ls.set kk vU, [], h1) → kk < ls.length → (∀ (p : Program) (e : Env) (R : Room) (s : State) (m : MethodId) (args : Array Value) (below : List Frame) (meth : Method) (c : Code) (A : List Nat) (H : Heap) (locs : List Loc) (cells slots : Nat) (lsA : Array Slot) (Q : State → Prop) (x : Nat), m_C D Y b A0 xs L p l R s m args meth c mi → m_L A b ls lsA → (∀ lsB : Array Slot, m_L A b (ls.set kk vU) lsB → W p l e R s m args below meth c H locs cells slots Q (F0 m (p9 + ln) lsB [])) → W p l e R s m args below meth c H locs cells slots Q (F0 m p9 lsA [.ref x])) → (r9 ≠ [] → m_pc r9 = p9 + ln) → m_vl mi r9 →
            h1.2.1 ≤ h'.2.1 ∧ h1.2.2 ≤ h'.2.2 ∧ ∀ (p : Program) (e : Env) (R : Room) (s : State) (m : MethodId) (args : Array Value) (below : List Frame) (meth : Method) (c : Code), m_C D Y b A0 xs L p l R s m args meth c mi →
            ∀ (A : List Nat) (H : Heap) (locs : List Loc) (z1 z2 : Nat) (lsA : Array Slot) (Q : State → Prop), z1 ≤ h1.2.1 → z2 ≤ h1.2.2 → m_W D Y b A0 A h1 H → va_S A0 s.heap H locs → m_okL h1.1.length ls → m_L A b ls lsA → h'.2.1 - z1 ≤ R.cells → h'.2.2 - z2 ≤ R.slots → m_EN D Y b A0 p l e R s m args below meth c mi o h' A z1 z2 Q →
            ∀ (ce : Cell) (q : Addr) (rest : List Value), H[q]? = some ce → ce.vm = .none → s.vm.findClass (eN k) = some ce.cls → vx_W p l e R s m args below meth c H locs (h1.2.1 - z1) (h1.2.2 - z2) Q (F0 m pc lsA rest) q := by
          intro kk i9 ln p9 r9 hb9 hc9 hk9 row hp9 hv9
          rw [hc9] at hback
          have hne : r9 ≠ [] := by
            intro z
            rw [z, m_run_nil] at hback
            cases hback
          have K := hS mi r9 (ls.set kk vU) [] h1 h' o hback hmi hv9 (by rw [List.length_set]; exact hlen)
          refine ⟨K.1, K.2.1, ?_⟩
          intro p e R s m args below meth c hC A H locs z1 z2 lsA Q t1 t2 hW hSS hok hL hc1 hc2 hE ce q rest hcell hv hcl
          obtain ⟨c1, c2', c3, c4, c5, c6, c7, c8, c9, c10, c11, c12, -⟩ := id hC
          have h177 : mi < 177 := Nat.lt_of_le_of_ne (by omega) (fun z => hh (by rw [z]; decide +kernel))
          have c8 := c8 h177
          have htab : c.exceptionTable.toList = tableOf ((as.map (fun q => (q.1, q.2.1, q.2.2.1, q.2.2.2.1)))) ++ (⟨q9.1, q9.2.1, q9.2.2.1, q9.2.2.2.1⟩ :: tableOf ((bs.map (fun q => (q.1, q.2.1, q.2.2.1, q.2.2.2.1))))) := by
            rw [c8, m_h4, hsplit]
            simp [tableOf]
          have hp9' : m_pc (m_blk mi q9.2.2.1) = q9.2.2.1 := hblk.2 (by rw [hb9]; exact List.cons_ne_nil _ _)
          rw [hb9] at hp9'
          have hp9'' : p9 = q9.2.2.1 := hp9'
          have he9 : q9.2.2.2.2 = k := hq1.2.2
          refine vx_catch (own := m_cn (m_own mi)) (name := eN k) c4 _ _ _ htab (fun z hz => ?_) ?_ (hfact q9 hqm).2.1 ?_ ?_ hcell hv hcl ?_
          · unfold tableOf at hz
            rw [List.map_map] at hz
            obtain ⟨y, hy, rfl⟩ := List.mem_map.mp hz
            have hy2 := has y hy
            have hym : y ∈ m_hand mi := by rw [hsplit]; exact List.mem_append_left _ hy
            by_cases hcov : y.1 ≤ pc ∧ pc < y.2.1
            · refine Or.inr ⟨(hfact y hym).2.1, eN y.2.2.2.2, c5 _ (hlink y hym), ?_⟩
              refine c12.2.2.2.2.1 k y.2.2.2.2 (by rw [← he9]; exact (hfact q9 hqm).2.2) (hfact y hym).2.2 (fun z => ?_)
              simp at hy2
              omega
            · refine Or.inl ?_
              simp [covers]
              intro z1 
              omega
          · simp [covers]
            exact ⟨hq1.1, hq1.2.1⟩
          · have := c5 _ (hlink q9 hqm)
            rw [he9] at this
            exact this
          · have h3 : k < 3 := by rw [← he9]; exact (hfact q9 hqm).2.2
            have hb3 : Cond.castable (eN k) (eN k) ∈ m_bad := by
              rcases (show k = 0 ∨ k = 1 ∨ k = 2 by omega) with rfl | rfl | rfl
              · exact ew_0.2
              · exact ew_1.2
              · exact ew_2.2
            exact va_Nw.use rfl (c12.2.2.2.1 _ hb3)
          · show W p l e R s m args below meth c H locs (h1.2.1 - z1) (h1.2.2 - z2) Q (F0 m q9.2.2.1 lsA [.ref q])
            rw [← hp9'']
            refine row p e R s m args below meth c A H locs _ _ lsA Q q hC hL fun lsB hB => ?_
            have K2 := K.2.2 p e R s m args below meth c hC A H locs z1 z2 lsB Q ⟨t1, t2, hW, hSS, hok.set trivial, fun v hv => (by cases hv), hB, by rw [List.length_set]; exact hlen, hc1, hc2⟩ hE
            rw [hp9 hne] at K2
            exact K2
        split at hc2
        · rename_i p9 k9 r9 hb9
          split at hc2
          · rename_i hk9
            cases hc2
            have hvl9 := hblk.1
            rw [hb9] at hvl9
            obtain ⟨⟨len, hd, hl9, hn9⟩, -, hv9⟩ := hvl9
            have hl1 : len = 1 := by
              rcases hl9 with h9 | h9
              · exact h9.symm
              · cases h9
            subst hl1
            refine key k9.val (.astore_n k9) 1 p9 r9 hb9 rfl hk9 (fun p e R s m args below meth c A H locs cells slots lsA Q x hC hL kk => lv_astore_n hC.1 hC.2.1 hd rfl hL.has hk9 rfl (fun lsB hB => kk lsB (hL.forget hk9 rfl hB))) (fun hne => ?_) hv9
            cases r9 with
            | nil => exact absurd rfl hne
            | cons y t => exact hn9 y t rfl
          · cases hc2
        · rename_i p9 k9 r9 hb9
          split at hc2
          · rename_i hk9
            cases hc2
            have hvl9 := hblk.1
            rw [hb9] at hvl9
            obtain ⟨⟨len, hd, hl9, hn9⟩, -, hv9⟩ := hvl9
            have hl1 : len = 2 := by
              rcases hl9 with h9 | h9
              · exact h9.symm
              · cases h9
            subst hl1
            refine key k9 (.astore k9) 2 p9 r9 hb9 rfl hk9 (fun p e R s m args below meth c A H locs cells slots lsA Q x hC hL kk => lv_astore hC.1 hC.2.1 hd hL.has hk9 rfl (fun lsB hB => kk lsB (hL.forget hk9 rfl hB))) (fun hne => ?_) hv9
            cases r9 with
            | nil => exact absurd rfl hne
            | cons y t => exact hn9 y t rfl
          · cases hc2
        · cases hc2
      · cases hc2
    · cases hback
/-- a call: its contract, and what follows -/
theorem g_call {n mj : Nat} {i : Instr} (hS : m_SND D Y b A0 xs L l n) {av st0 : List MV} {h1 : MHp} {o1 : MOut} {arr : List Nat → Array Value} (hmi : mi < 178) (hmj : mj < 177) (hav : av.length ≤ m_maxL mj) (hlen : ls.length = m_maxL mi) (hvr : m_vl mi r) (hpr : r ≠ [] → m_pc r = pc + 3) (hrun : m_run xs L n mj (m_entry mj av h) = some (o1, h1)) (hback : m_back (m_run xs L n) mi pc r ls st (o1, h1) = some (o, h')) (hst : m_okL h.1.length st0 → m_okL h.1.length st)
    (row : ∀ (p : Program) (e : Env) (R : Room) (s : State) (m : MethodId) (args : Array Value) (below : List Frame) (meth : Method) (c : Code) (A : List Nat) (H : Heap) (locs : List Loc) (cells slots : Nat) (lsA : Array Slot), m_C D Y b A0 xs L p l R s m args meth c mi → m_W D Y b A0 A h H → va_S A0 s.heap H locs → m_okL h.1.length st0 → lsA.size = m_maxL mi → cells + (h1.2.1 - h.2.1) ≤ R.cells → slots + (h1.2.2 - h.2.2) ≤ R.slots →
      vx_Run p l e R s m args below meth c H locs cells slots (h1.2.1 - h.2.1) (h1.2.2 - h.2.2) (F0 m pc lsA (st0.map (m_val A b))) (st.map (m_val A b)) (m_Qc D Y b A0 A o1 h1 (arr A)) (m_XC D Y b A0 A o1 h1) A0) : m_G D Y b A0 xs L l o h' mi ((pc, i) :: r) ls st0 h := by
  have hG := hS mj (m_code mj) (av ++ List.replicate (m_maxL mj - av.length) vU) [] h h1 o1 hrun (by omega) (m_vlc (by omega)) (by simp; omega)
  have hh1 : h.2.1 ≤ h1.2.1 ∧ h.2.2 ≤ h1.2.2 ∧ h1.2.1 ≤ h'.2.1 ∧ h1.2.2 ≤ h'.2.2 := by
    refine ⟨hG.1, hG.2.1, ?_⟩
    cases o1 with
    | inl v =>
      have K := hS mi r ls (v.toList ++ st) h1 h' o hback hmi hvr hlen
      exact ⟨K.1, K.2.1⟩
    | inr k =>
      have K := g_thrown hS hmi hlen hback
      exact ⟨K.1, K.2.1⟩
  refine ⟨by omega, by omega, ?_⟩
  intro p e R s m args below meth c hC A H locs z1 z2 lsA Q hT hE
  obtain ⟨t1, t2, t3, t4, t5, t6, t7, t8, t9, t10⟩ := id hT
  obtain ⟨k1, k2, k3, k4⟩ := hh1
  have hr := row p e R s m args below meth c A H locs (h.2.1 - z1) (h.2.2 - z2) lsA hC t3 t4 t6 (by rw [t7.1]; exact hlen) (by omega) (by omega)
  intro T hTT X
  have e1 : h.2.1 - z1 + (h1.2.1 - h.2.1) = h1.2.1 - z1 := by omega
  have e2 : h.2.2 - z2 + (h1.2.2 - h.2.2) = h1.2.2 - z2 := by omega
  rcases hr T hTT X with ⟨v, st₀, t, T', LL, g0, X', gL, f1, f2, ⟨v9, X9, ho1, hv9, hok9, hW9, hF9⟩, stp⟩ | ⟨q, st₀, t, T', LL, E, ce, g0, X', gL, f1, f2, ⟨kx, X9, ho1, hEk, hW9, hF9⟩, hce, hcv, hcl, stp⟩
  · subst ho1
    have hback2 : m_run xs L n mi (r, ls, v9.toList ++ st, h1) = some (o, h') := hback
    have hne : r ≠ [] := by
      intro z
      rw [z, m_run_nil] at hback2
      cases hback2
    have K := hS mi r ls (v9.toList ++ st) h1 h' o hback2 hmi hvr hlen
    obtain ⟨w1, w2, w3⟩ := vx_keep (A1 := A0) g0 f1 t4 (fun _ _ z => z) (fun _ z => z) gL hF9
    have hAl := t3.1
    have hW9' : m_W D Y b A0 (A ++ X9) h1 T'.heap := by rw [f1]; exact hW9
    have hle := m_len_ext t3 hW9'
    rw [e1, e2] at X'
    have K2 := K.2.2 p e R s m args below meth c hC (A ++ X9) T'.heap (locs ++ LL) z1 z2 lsA Q ⟨by omega, by omega, hW9', w3, t5.mono hle, ?_, t7.ext (by rw [hAl]; exact t5), t8, t9, t10⟩ ?_
    · have hvv : v.toList ++ st.map (m_val A b) = (v9.toList ++ st).map (m_val (A ++ X9) b) := by
        cases hv9
        have e9 : st.map (m_val (A ++ X9) b) = st.map (m_val A b) := m_map_ext (by rw [hAl]; exact hst t6)
        rw [List.map_append, e9]
        cases v9 <;> rfl
      rw [hpr hne, ← hvv] at K2
      obtain ⟨t2', a1, b1⟩ := K2 T' rfl X'
      exact ⟨t2', stp t2' a1, b1⟩
    · intro w hw
      rcases List.mem_append.mp hw with h9 | h9
      · cases v9 with
        | none => cases h9
        | some x => rw [List.mem_singleton.mp h9]; exact hok9 x rfl
      · exact (hst t6).mono hle w h9
    · refine ⟨fun v hv X H' locs' pc' lsA' y1 y2 y3 y4 => ?_, fun E hE2 => ?_⟩
      · rw [List.append_assoc] at y1 ⊢
        exact hE.1 v hv _ H' locs' pc' lsA' y1 y2 y3 y4
      · obtain ⟨y0, Qc, XC, mc, ms, y1, y2, y3, y4⟩ := hE.2 E hE2
        exact ⟨y0, Qc, XC, mc, ms, y1, y2, y3, fun X t x1 x2 x3 => y4 (X9 ++ X) t (by rw [← List.append_assoc]; exact x1) x2 x3⟩
  · subst ho1
    obtain ⟨j1, j2, j3⟩ := g_thrown hS hmi hlen hback
    obtain ⟨w1, w2, w3⟩ := vx_keep (A1 := A0) g0 f1 t4 (fun _ _ z => z) (fun _ z => z) gL hF9
    have hAl := t3.1
    have hW9' : m_W D Y b A0 (A ++ X9) h1 T'.heap := by rw [f1]; exact hW9
    have hle := m_len_ext t3 hW9'
    rw [e1, e2] at X'
    obtain ⟨t2', a1, b1⟩ := j3 p e R s m args below meth c hC (A ++ X9) T'.heap (locs ++ LL) z1 z2 lsA Q (by omega) (by omega) hW9' w3 (t5.mono hle) (t7.ext (by rw [hAl]; exact t5)) t9 t10 (by
      refine ⟨fun v hv X H' locs' pc' lsA' y1 y2 y3 y4 => ?_, fun E hE2 => ?_⟩
      · rw [List.append_assoc] at y1 ⊢
        exact hE.1 v hv _ H' locs' pc' lsA' y1 y2 y3 y4
      · obtain ⟨y0, Qc, XC, mc, ms, y1, y2, y3, y4⟩ := hE.2 E hE2
        exact ⟨y0, Qc, XC, mc, ms, y1, y2, y3, fun X t x1 x2 x3 => y4 (X9 ++ X) t (by rw [← List.append_assoc]; exact x1) x2 x3⟩) ce q (st.map (m_val A b)) (by rw [f1]; exact hce) hcv (by rw [← hEk]; exact hcl) T' rfl X'
    exact ⟨t2', stp.trans a1, b1⟩
end G
