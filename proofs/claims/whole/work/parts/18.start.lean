/-! ===== the law's walk out of its run in the small machine ===== -/
def m_kd : List (Nat × FieldType) := [(20, .int), (21, .boolean), (22, .float), (23, .long), (24, .double), (31, .object RX1), (33, .object RX3), (35, .object RX5), (36, .object RX6), (37, .object RX7), (38, .object RX8)]
theorem m_arrP {s : State} {args : Array Value} {ty : FieldType} (h : (Cond.arrayClass ty).before args s = true) (hp : ∀ c, s.vm.findClass ("[" ++ ty.toString) = some c → va_RA s c ty) : ∃ cA, ArrOfT s cA ty ∧ va_RA s cA ty := by
  obtain ⟨c, k, comp, h1, h2, h3⟩ := Cond.arrayClass_spec h
  exact ⟨c, fun n z => ⟨fun k h => (by cases h), k, h2, comp, h3⟩, hp c h1⟩
theorem m_arrQ {s : State} {args : Array Value} {C : String} (h : (Cond.arrayOver (.object C)).before args s = true) : ∃ cA, ArrOfT s cA (.object C) ∧ va_RA s cA (.object C) := by
  obtain ⟨comp, c, k, h1, h2, h3, h4, h5⟩ := Cond.arrayOver_spec h
  exact ⟨c, fun n z => ⟨fun k h => (by cases h), k, h3, comp, h4⟩, k, comp, h3, h4, h1, h5⟩
theorem m_strw : ∀ q ∈ tT, Cond.stringRef (m_cn q.1) q.2.1 q.2.2 ∈ lw_tbl := by decide +kernel
theorem m_stre : ∀ q ∈ tT, Cond.exactly (.string (m_cn q.1) q.2.1) "java/lang/String" ∈ flatC (Jvm.Cond.and given_1 narrow_1) := by decide +kernel
theorem m_ncast : ∀ e, e < 3 → ∀ e', e' < 3 → e ≠ e' → Cond.not (.castable (eN e) (eN e')) ∈ flatC (Jvm.Cond.and given_1 narrow_1) := by decide +kernel
theorem m_stw : Cond.laysStatic Bundle.tN "UNASSIGNED_STACK" Bundle.steD ∈ lw_tbl ∧ Cond.laysStatic Bundle.tN "SUPPRESSED_SENTINEL" Bundle.listD ∈ lw_tbl ∧ Cond.initialized Bundle.tN ∈ lw_tbl ∧ Cond.isRef (.static Bundle.tN "UNASSIGNED_STACK" Bundle.steD) ∈ flatC (Jvm.Cond.and given_1 narrow_1) ∧ Cond.isRef (.static Bundle.tN "SUPPRESSED_SENTINEL" Bundle.listD) ∈ flatC (Jvm.Cond.and given_1 narrow_1) := by decide +kernel
theorem m_flags {l : Launch} (h : l.flags = flags0) : l.stackTraces = false := by
  unfold Launch.stackTraces
  rw [h]
  decide +kernel
set_option maxHeartbeats 4000000 in
theorem m_start {p : Program} {e : Env} {s : State} {m : MethodId} {below : List Frame} {meth : Method} {c : Code} (l : Launch) (hflags : l.flags = flags0) {b L : Nat} {xs : Nat → Int32} (C0 : lw_At p s m meth c b L xs) {n : Nat} {h' : MHp}
    (hrun : m_run xs (L + 1) n 177 (m_code 177, vS :: List.replicate 7 vU, [], ([], 0, 0)) = some (.inl (some (vI 1)), h')) (h1 : h'.2.1 ≤ 601024) (h2 : h'.2.2 ≤ 7293034) :
    W p l e room_1 s m #[Value.ref b] below meth c s.heap [] 0 0 (lw_Z below #[Value.ref b] s) (entryFrame m ([Value.ref b] : List Value).toArray 8) := by
  obtain ⟨hx, hb, hr, hml, hown, hts0, hX, hbl, hlocks, hgv⟩ := id C0
  have hts : ∀ w ∈ lw_good, w.before #[Value.ref b] s = true := fun w hw => hts0 w (List.mem_filter.mp hw).1
  have hfl := flat_of_before _ hgv
  have hl := m_flags hflags
  have hcl : ∀ k : Nat, ∃ d : ClassId × (Nat → Nat), ∀ q : vw_C, vwCl[k]? = some q → u_Kn s q.1 q.2.1 q.2.2 d.1 d.2 := by
    intro k
    cases hk : vwCl[k]? with
    | none => exact ⟨(0, fun _ => 0), fun q hq => by cases hq⟩
    | some q =>
      obtain ⟨C, T, N⟩ := q
      obtain ⟨-, huw, hins, -⟩ := m_cls hk
      obtain ⟨cC, iS, hKn⟩ := u_known hts huw (hts _ hins)
      exact ⟨(cC, iS), fun q hq => by cases hq; exact hKn⟩
  obtain ⟨f, hf⟩ := Classical.axiomOfChoice hcl
  have harr : ∀ t : Nat, ∃ cA : ClassId, ∀ ty : FieldType, (t, ty) ∈ m_kd → ArrOfT s cA ty ∧ va_RA s cA ty := by
    have hall : ∀ q ∈ m_kd, ∃ cA, ArrOfT s cA q.2 ∧ va_RA s cA q.2 := by
      intro q hq
      simp only [m_kd, List.mem_cons, List.not_mem_nil, or_false] at hq
      rcases hq with rfl | rfl | rfl | rfl | rfl | rfl | rfl | rfl | rfl | rfl | rfl
      · exact m_arrP (hts _ aw_int) (fun _ h => h)
      · exact m_arrP (hts _ aw_boolean) (fun _ h => h)
      · exact m_arrP (hts _ aw_float) (fun _ h => h)
      · exact m_arrP (hts _ aw_long) (fun _ h => h)
      · exact m_arrP (hts _ aw_double) (fun _ h => h)
      · exact m_arrQ (hts0 _ (List.mem_filter.mp ao_1).1)
      · exact m_arrQ (hts0 _ (List.mem_filter.mp ao_3).1)
      · exact m_arrQ (hts0 _ (List.mem_filter.mp ao_5).1)
      · exact m_arrQ (hts0 _ (List.mem_filter.mp ao_6).1)
      · exact m_arrQ (hts0 _ (List.mem_filter.mp ao_7).1)
      · exact m_arrQ (hts0 _ (List.mem_filter.mp ao_8).1)
    intro t
    by_cases ht : ∃ ty, (t, ty) ∈ m_kd
    · obtain ⟨ty, hty⟩ := ht
      obtain ⟨cA, hA⟩ := hall _ hty
      refine ⟨cA, fun ty2 h2 => ?_⟩
      have e : ty2 = ty := by
        have hinj : ∀ q ∈ m_kd, ∀ q2 ∈ m_kd, q.1 = q2.1 → q.2 = q2.2 := by decide +kernel
        exact hinj _ h2 _ hty rfl
      subst e
      exact hA
    · exact ⟨0, fun ty h => absurd ⟨ty, h⟩ ht⟩
  obtain ⟨Y, hY⟩ := Classical.axiomOfChoice harr
  have hK : va_K (fun k => (f k).1, fun k => (f k).2) vwCl (m_tys Y) s := by
    refine ⟨fun k q hq => hf k q hq, fun k q hq => ?_⟩
    have hm : q ∈ m_tys Y := List.mem_of_getElem? hq
    have e : m_tys Y = m_kd.map (fun q => (Y q.1, q.2)) := rfl
    rw [e] at hm
    obtain ⟨q0, hq0, rfl⟩ := List.mem_map.mp hm
    exact hY q0.1 q0.2 hq0
  have hA0 : ∀ a : Nat, a < s.heap.size → ¬ (fun q : Nat => s.heap.size ≤ q) a := fun a ha => Nat.not_le.mpr ha
  have hXX : m_X xs (L + 1) b (fun q : Nat => s.heap.size ≤ q) s s.heap := by
    refine ⟨vx_Zqof (hts0 _ m_stw.1) (hts0 _ m_stw.2.2.1) (hfl _ m_stw.2.2.2.1) hA0, vx_Zqof (hts0 _ m_stw.2.1) (hts0 _ m_stw.2.2.1) (hfl _ m_stw.2.2.2.2) hA0, fun q hq => ?_, fun w hw => ?_, fun e e' a1 a2 a3 => va_Nc.of (hfl _ (m_ncast e a1 e' a2 a3)), fun _ => ⟨hX, hbl, hA0 b hbl⟩⟩
    · obtain ⟨a, cc, cell, kk, g1, -⟩ := Cond.exactly_spec (hfl _ (m_stre q hq))
      exact ⟨a, vk_R.of (hts0 _ (m_strw q hq)) g1⟩
    · have h9 := hts0 w (List.mem_filter.mp hw).1
      have hB := (List.mem_filter.mp hw).2
      unfold m_isB at hB
      split at hB
      · exact va_Nw.of rfl h9
      · exact va_Nw.of rfl h9
      · exact va_Nw.of rfl h9
      · exact h9
      · cases hB
  have hC : m_C (fun k => (f k).1, fun k => (f k).2) Y b (fun q : Nat => s.heap.size ≤ q) xs (L + 1) p l room_1 s m #[Value.ref b] meth c 177 :=
    ⟨hx, hb, hml, hown, hts, hlocks, hr, fun z => absurd z (by decide), fun z => absurd z (by decide), hl, hK, hXX, fun _ h => h, by decide +kernel, by decide +kernel⟩
  have G := m_sound (D := (fun k => (f k).1, fun k => (f k).2)) (Y := Y) (b := b) (A0 := fun q : Nat => s.heap.size ≤ q) (xs := xs) (L := L + 1) hl n 177 (m_code 177) (vS :: List.replicate 7 vU) [] ([], 0, 0) h' _ hrun (by decide) (m_vlc (by decide)) (by decide +kernel)
  have hLL : m_L [] b (vS :: List.replicate 7 vU) (lg_sl ([Value.ref b] : List Value) ++ List.replicate (8 - (lg_sl ([Value.ref b] : List Value)).length) Slot.unset).toArray := m_L.entry (A := []) (b := b) (n := 8) (vs := [vS]) (fun v hv => by rw [List.mem_singleton.mp hv]; rfl) (by decide)
  rw [lg_entry_eq]
  generalize (lg_sl ([Value.ref b] : List Value) ++ List.replicate (8 - (lg_sl ([Value.ref b] : List Value)).length) Slot.unset).toArray = lsA at hLL ⊢
  have k := G.2.2 p e room_1 s m #[Value.ref b] below meth c hC [] s.heap [] 0 0 lsA (lw_Z below #[Value.ref b] s) ?_ ?_
  · rw [m_pc0 177 (by decide)] at k
    exact k
  · have hnil : m_ws Y [] b (([], 0, 0) : MHp).1 = [] := rfl
    have hW : m_W (fun k => (f k).1, fun k => (f k).2) Y b (fun q : Nat => s.heap.size ≤ q) [] ([], 0, 0) s.heap := by
      unfold m_W
      rw [hnil]
      refine ⟨rfl, fun c hc => ?_, fun k q hq => ?_, fun i j p q hi => ?_, fun k q hq => ?_⟩
      · exact absurd hc List.not_mem_nil
      · exact absurd hq (by simp)
      · exact absurd hi (by simp)
      · exact absurd hq (by simp)
    refine ⟨Nat.le_refl _, Nat.le_refl _, hW, va_S.rf, fun v hv => ?_, fun v hv => absurd hv List.not_mem_nil, hLL, by decide +kernel, h1, h2⟩
    rcases List.mem_cons.mp hv with rfl | hv
    · trivial
    · rw [(List.mem_replicate.mp hv).2]; trivial
  · refine ⟨fun v hv X H' locs' pc' lsA' w1 w2 w3 w4 => ?_, fun E hE => by cases hE⟩
    cases hv
    have hd : decode code pc' = .ok (.ireturn, 1) := by
      rcases w4 with ⟨a, h9, ht, hd⟩ | ⟨x, h9, ht, hd⟩ | ⟨q, nn, h9, ht, hd⟩ | ⟨h9, ht, hd⟩
      · exact hd
      · cases h9
      · cases h9
      · cases h9
    refine va_forget (fun q hq => w2.2.2 q hq) ?_
    refine W.widen (k := 601024) (n := 7293034) h1 h2 ?_
    exact lw_ret (d0 := s.drawn) (Drawn.sameBut.refl s.drawn lw_cs) hx hb hr hlocks hd
