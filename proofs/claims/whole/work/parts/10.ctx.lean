/-! ===== where a run of the small machine stands in the machine ===== -/
/-- what a state says of the tables beside the classes: for throws, handlers and the script -/
def m_X (xs : Nat → Int32) (L b : Nat) (A0 : Nat → Prop) (U : State) (H : Heap) : Prop :=
  vx_Zq Bundle.tN "UNASSIGNED_STACK" Bundle.steD A0 U H ∧ vx_Zq Bundle.tN "SUPPRESSED_SENTINEL" Bundle.listD A0 U H ∧ (∀ q ∈ tT, ∃ a, vk_R (m_cn q.1) q.2.1 q.2.2 a U) ∧ (∀ w ∈ m_bad, va_Nw w U) ∧ (∀ e e', e < 3 → e' < 3 → e ≠ e' → va_Nc (eN e) (eN e') U) ∧ (0 < L → va_X b (L - 1) xs U H ∧ b < H.size ∧ ¬ A0 b)
theorem m_bad_warm {s U : State} (hW : s.WarmedH U.vm) {w : Cond} (hw : m_isB w = true) (h : va_Nw w s) : va_Nw w U := by
  unfold m_isB at hw
  split at hw
  · exact va_Nw.warmC hW h
  · exact va_Nw.warmD hW h
  · exact va_Nw.warmM hW h
  · exact va_AO.moved hW.alike h
  · cases hw
theorem m_X.at {xs : Nat → Int32} {L b : Nat} {A0 : Nat → Prop} {s U : State} {H : Heap} {locs : List Loc} (h : m_X xs L b A0 s s.heap) (hS : va_S A0 s.heap H locs) (hU : U.heap = H) (hW : s.WarmedH U.vm) : m_X xs L b A0 U U.heap := by
  obtain ⟨h1, h2, h3, h4, h5, h6⟩ := h
  rw [hU]
  refine ⟨(h1.kept hS.2.1).moved hW.alike, (h2.kept hS.2.1).moved hW.alike, fun q hq => ?_, fun w hw => m_bad_warm hW (List.mem_filter.mp hw).2 (h4 w hw), fun e e' a1 a2 a3 => (h5 e e' a1 a2 a3).moved hW.alike, fun hL => ?_⟩
  · obtain ⟨a, ha⟩ := h3 q hq
    exact ⟨a, ha.warm hW⟩
  · obtain ⟨h7, h8, h9⟩ := h6 hL
    exact ⟨(h7.kept (hS.2.1 b h8 h9)).moved hW.alike, Nat.lt_of_lt_of_le h8 hS.1, h9⟩
theorem m_X.call {xs : Nat → Int32} {L b : Nat} {A0 : Nat → Prop} {U : State} {H : Heap} {g : JFrame} {mk : MethodId} {a : Array Value} (h : m_X xs L b A0 U H) : m_X xs L b A0 (U.calling g mk a) H := by
  obtain ⟨h1, h2, h3, h4, h5, h6⟩ := h
  have hA : U.vm.Alike (U.calling g mk a).vm := Vm.Alike.refl U.vm
  have hv : (U.calling g mk a).vm = U.vm := rfl
  refine ⟨h1.moved hA, h2.moved hA, fun q hq => ?_, fun w hw => ?_, fun e e' a1 a2 a3 => (h5 e e' a1 a2 a3).moved hA, fun hL => ⟨(h6 hL).1.moved hA, (h6 hL).2⟩⟩
  · obtain ⟨x, hx⟩ := h3 q hq
    exact ⟨x, hx.same hv⟩
  · have hB := (List.mem_filter.mp hw).2
    have h9 := h4 w hw
    unfold m_isB at hB
    split at hB
    · exact va_Nw.same rfl hv.symm h9
    · exact va_Nw.same rfl hv.symm h9
    · exact va_Nw.same rfl hv.symm h9
    · exact va_AO.moved hA h9
    · cases hB
/-- locals: every known value lies in its place; none takes two -/
def m_isU : MV → Bool
  | .inr (.inr (.inr (.inr (.inr false)))) => true
  | _ => false
def m_L (A : List Nat) (b : Nat) (ls : List MV) (lsA : Array Slot) : Prop := lsA.size = ls.length ∧ lv_wf lsA ∧ (∀ v ∈ ls, m_cat v = 1) ∧ ∀ (k : Nat) (v : MV), ls[k]? = some v → m_isU v = false → lsA[k]? = some (.val (m_val A b v))
theorem m_val_cat (A : List Nat) (b : Nat) (v : MV) : (m_val A b v).category = m_cat v := by
  rcases v with a | (_ | o) | x | x | x | (_ | _) <;> rfl
theorem m_cat_sum (A : List Nat) (b : Nat) (l : List MV) : ((l.map (m_val A b)).map fun v => v.category).sum = (l.map m_cat).sum := by
  rw [List.map_map]
  congr 1
  exact List.map_congr_left fun v _ => m_val_cat A b v
def m_lv (A : List Nat) (b : Nat) (ls : List MV) : List (Nat × Value) := (List.range ls.length).filterMap (fun k => match ls[k]? with
  | some v => if m_isU v = true then none else some (k, m_val A b v)
  | none => none)
theorem m_lv_mem {A : List Nat} {b : Nat} {ls : List MV} {q : Nat × Value} : q ∈ m_lv A b ls ↔ ∃ v, ls[q.1]? = some v ∧ m_isU v = false ∧ q.2 = m_val A b v := by
  unfold m_lv
  rw [List.mem_filterMap]
  constructor
  · rintro ⟨k, hk, h⟩
    cases hv : ls[k]? with
    | none => rw [hv] at h; cases h
    | some v =>
      rw [hv] at h
      simp only at h
      split at h
      · cases h
      · rename_i hu
        cases h
        exact ⟨v, hv, by simpa using hu, rfl⟩
  · rintro ⟨v, hv, hu, he⟩
    refine ⟨q.1, List.mem_range.mpr (List.getElem?_eq_some_iff.mp hv).1, ?_⟩
    rw [hv]
    simp only [hu]
    rw [← he]
    simp
theorem m_L.has {A : List Nat} {b : Nat} {ls : List MV} {lsA : Array Slot} (h : m_L A b ls lsA) : lv_has lsA ls.length (m_lv A b ls) := by
  refine ⟨h.1, h.2.1, fun q hq => ?_⟩
  obtain ⟨v, hv, hu, he⟩ := m_lv_mem.mp hq
  rw [he]
  exact h.2.2.2 q.1 v hv hu
theorem m_L.stored {A : List Nat} {b k : Nat} {ls : List MV} {lsA lsB : Array Slot} {v : MV} (h : m_L A b ls lsA) (hk : k < ls.length) (hv : m_cat v = 1)
    (hh : lv_has lsB ls.length ((k, m_val A b v) :: (m_lv A b ls).filter (fun q => !(q.1 == k) && !(q.1 + 1 == k && q.2.category == 2)))) : m_L A b (ls.set k v) lsB := by
  refine ⟨by rw [hh.1, List.length_set], hh.2.1, fun w hw => ?_, fun j w hj hu => ?_⟩
  · rcases List.mem_or_eq_of_mem_set hw with h1 | h1
    · exact h.2.2.1 w h1
    · rw [h1]; exact hv
  · by_cases hjk : j = k
    · subst hjk
      rw [List.getElem?_set_self hk] at hj
      cases hj
      exact hh.2.2 _ List.mem_cons_self
    · rw [List.getElem?_set_ne (Ne.symm hjk)] at hj
      refine hh.2.2 (j, m_val A b w) (List.mem_cons_of_mem _ (List.mem_filter.mpr ⟨m_lv_mem.mpr ⟨w, hj, hu, rfl⟩, ?_⟩))
      have h2 : m_cat w = 1 := h.2.2.1 w (List.mem_of_getElem? hj)
      simp [hjk, m_val_cat, h2]
theorem m_L.forget {A : List Nat} {b k : Nat} {ls : List MV} {lsA : Array Slot} (h : m_L A b ls lsA) {lsB : Array Slot} {v : Value} (hk : k < ls.length) (hv : v.category = 1)
    (hh : lv_has lsB ls.length ((k, v) :: (m_lv A b ls).filter (fun q => !(q.1 == k) && !(q.1 + 1 == k && q.2.category == 2)))) : m_L A b (ls.set k vU) lsB := by
  refine ⟨by rw [hh.1, List.length_set], hh.2.1, fun w hw => ?_, fun j w hj hu => ?_⟩
  · rcases List.mem_or_eq_of_mem_set hw with h1 | h1
    · exact h.2.2.1 w h1
    · rw [h1]; rfl
  · by_cases hjk : j = k
    · subst hjk
      rw [List.getElem?_set_self hk] at hj
      cases hj
      cases hu
    · rw [List.getElem?_set_ne (Ne.symm hjk)] at hj
      refine hh.2.2 (j, m_val A b w) (List.mem_cons_of_mem _ (List.mem_filter.mpr ⟨m_lv_mem.mpr ⟨w, hj, hu, rfl⟩, ?_⟩))
      have h2 : m_cat w = 1 := h.2.2.1 w (List.mem_of_getElem? hj)
      simp [hjk, m_val_cat, h2]
theorem m_L.ext {A X : List Nat} {b : Nat} {ls : List MV} {lsA : Array Slot} (h : m_L A b ls lsA) (hk : m_okL A.length ls) : m_L (A ++ X) b ls lsA :=
  ⟨h.1, h.2.1, h.2.2.1, fun k v hv hu => by rw [m_val_ext (hk.get hv)]; exact h.2.2.2 k v hv hu⟩
theorem m_lv_args {A : List Nat} {b : Nat} : ∀ (vs : List MV) (i : Nat), (∀ v ∈ vs, m_cat v = 1) → ∀ (k : Nat) (v : MV), vs[k]? = some v → (i + k, m_val A b v) ∈ lv_args i (vs.map (m_val A b))
  | [], i, _, k, v, h => by simp at h
  | w :: vs, i, hc, k, v, h => by
    have hw : (m_val A b w).category = 1 := by rw [m_val_cat]; exact hc w List.mem_cons_self
    simp only [List.map_cons, lv_args]
    rw [if_neg (by omega)]
    cases k with
    | zero =>
      simp at h
      subst h
      exact List.mem_cons_self
    | succ k =>
      simp at h
      have := m_lv_args (A := A) (b := b) vs (i + 1) (fun v hv => hc v (List.mem_cons_of_mem _ hv)) k v h
      rw [show i + (k + 1) = i + 1 + k by omega]
      exact List.mem_cons_of_mem _ this
theorem m_sl_len {A : List Nat} {b : Nat} : ∀ (vs : List MV), (∀ v ∈ vs, m_cat v = 1) → (lg_sl (vs.map (m_val A b))).length = vs.length
  | [], _ => rfl
  | w :: vs, hc => by
    have hw : (m_val A b w).category = 1 := by rw [m_val_cat]; exact hc w List.mem_cons_self
    have ih := m_sl_len (A := A) (b := b) vs (fun v hv => hc v (List.mem_cons_of_mem _ hv))
    unfold lg_sl at ih ⊢
    simp only [List.map_cons, List.flatMap_cons, List.length_append, ih]
    rw [if_neg (by omega)]
    simp
    omega
theorem m_L.entry {A : List Nat} {b n : Nat} {vs : List MV} (hc : ∀ v ∈ vs, m_cat v = 1) (hn : vs.length ≤ n) : m_L A b (vs ++ List.replicate (n - vs.length) vU) ((lg_sl (vs.map (m_val A b)) ++ List.replicate (n - (lg_sl (vs.map (m_val A b))).length) Slot.unset).toArray) := by
  have hl := lv_entry (vs.map (m_val A b)) (n := n) (by rw [m_sl_len vs hc]; exact hn)
  refine ⟨by rw [hl.1]; simp; omega, hl.2.1, fun v hv => ?_, fun k v hv hu => ?_⟩
  · rcases List.mem_append.mp hv with h1 | h1
    · exact hc v h1
    · rw [(List.mem_replicate.mp h1).2]; rfl
  · by_cases hk : k < vs.length
    · rw [List.getElem?_append_left hk] at hv
      have := m_lv_args (A := A) (b := b) vs 0 hc k v hv
      rw [Nat.zero_add] at this
      exact hl.2.2 _ this
    · rw [List.getElem?_append_right (by omega)] at hv
      have := List.mem_of_getElem? hv
      rw [(List.mem_replicate.mp this).2] at hu
      cases hu
/-- the method mi, in the machine -/
def m_C (D : va_G) (Y : Nat → ClassId) (b : Nat) (A0 : Nat → Prop) (xs : Nat → Int32) (L : Nat) (p : Program) (l : Launch) (R : Room) (s : State) (m : MethodId) (args : Array Value) (meth : Method) (c : Code) (mi : Nat) : Prop :=
  p.tables.exec = Jvm.exec ∧ c.code = m_cc mi ∧ c.maxLocals = m_maxL mi ∧ s.vm.findClass (m_cn (m_own mi)) = some m.cls ∧ (∀ w ∈ lw_good, w.before args s = true) ∧ meth.locks = false ∧ meth.sig.returnType = m_ret mi ∧ (mi < 177 → c.exceptionTable.toList = tableOf (m_h4 mi)) ∧ (mi < 177 → meth.name = (m_y mi).name) ∧ l.stackTraces = false ∧ va_K D vwCl (m_tys Y) s ∧ m_X xs L b A0 s s.heap ∧ (∀ q : Nat, s.heap.size ≤ q → A0 q) ∧ m_frs mi ≤ R.frames ∧ m_loc mi ≤ R.locals
/-- the state of the run: heap h at the addresses A in H, locals; what has been made since (z1, z2), and what will have been made -/
def m_ST (D : va_G) (Y : Nat → ClassId) (b : Nat) (A0 : Nat → Prop) (R : Room) (s : State) (mi : Nat) (h' : MHp) (ls st : List MV) (h : MHp) (A : List Nat) (H : Heap) (locs : List Loc) (z1 z2 : Nat) (lsA : Array Slot) : Prop :=
  z1 ≤ h.2.1 ∧ z2 ≤ h.2.2 ∧ m_W D Y b A0 A h H ∧ va_S A0 s.heap H locs ∧ m_okL h.1.length ls ∧ m_okL h.1.length st ∧ m_L A b ls lsA ∧ ls.length = m_maxL mi ∧ h'.2.1 - z1 ≤ R.cells ∧ h'.2.2 - z2 ≤ R.slots
/-- a return at pc' -/
def m_RE (mi pc : Nat) (v : Option MV) : Prop :=
  (∃ a, v = some (vI a) ∧ (m_ret mi = some .int ∨ (m_ret mi = some .boolean ∧ (a = 0 ∨ a = 1))) ∧ decode (m_cc mi) pc = .ok (.ireturn, 1)) ∨
  (∃ x, v = some (vF x) ∧ m_ret mi = some .float ∧ decode (m_cc mi) pc = .ok (.freturn, 1)) ∨
  (∃ o n, v = some (vR o) ∧ m_ret mi = some (.object n) ∧ decode (m_cc mi) pc = .ok (.areturn, 1)) ∨
  (v = none ∧ m_ret mi = none ∧ decode (m_cc mi) pc = .ok (.return_, 1))
/-- what the end of the run (o, h') owes to the goal Q -/
def m_EN (D : va_G) (Y : Nat → ClassId) (b : Nat) (A0 : Nat → Prop) (p : Program) (l : Launch) (e : Env) (R : Room) (s : State) (m : MethodId) (args : Array Value) (below : List Frame) (meth : Method) (c : Code) (mi : Nat) (o : MOut) (h' : MHp) (A : List Nat) (z1 z2 : Nat) (Q : State → Prop) : Prop :=
  (∀ v, o = .inl v → ∀ (X : List Nat) (H' : Heap) (locs' : List Loc) (pc' : Nat) (lsA' : Array Slot), m_W D Y b A0 (A ++ X) h' H' → va_S A0 s.heap H' locs' → (∀ w, v = some w → m_okV h'.1.length w) → m_RE mi pc' v → W p l e R s m args below meth c H' locs' (h'.2.1 - z1) (h'.2.2 - z2) Q (F0 m pc' lsA' (v.toList.map (m_val (A ++ X) b)))) ∧
  (∀ E, o = .inr E → mi < 177 ∧ ∃ (Qc : Array Value → State → Outcome → State → Prop) (XC : String → State → State → Prop) (mc ms : Nat), Q = vx_MQ below Qc XC args s mc ms A0 ∧ h'.2.1 - z1 ≤ mc ∧ h'.2.2 - z2 ≤ ms ∧ ∀ (X : List Nat) (t : State), m_W D Y b A0 (A ++ X) h' t.heap → s.vm.Alike t.vm → va_F A0 s t → XC (eN E) s t)
def m_G (D : va_G) (Y : Nat → ClassId) (b : Nat) (A0 : Nat → Prop) (xs : Nat → Int32) (L : Nat) (l : Launch) (o : MOut) (h' : MHp) (mi : Nat) (cd : MCode) (ls st : List MV) (h : MHp) : Prop :=
  h.2.1 ≤ h'.2.1 ∧ h.2.2 ≤ h'.2.2 ∧ ∀ (p : Program) (e : Env) (R : Room) (s : State) (m : MethodId) (args : Array Value) (below : List Frame) (meth : Method) (c : Code), m_C D Y b A0 xs L p l R s m args meth c mi →
    ∀ (A : List Nat) (H : Heap) (locs : List Loc) (z1 z2 : Nat) (lsA : Array Slot) (Q : State → Prop), m_ST D Y b A0 R s mi h' ls st h A H locs z1 z2 lsA → m_EN D Y b A0 p l e R s m args below meth c mi o h' A z1 z2 Q →
      W p l e R s m args below meth c H locs (h.2.1 - z1) (h.2.2 - z2) Q (F0 m (m_pc cd) lsA (st.map (m_val A b)))
section G
variable {D : va_G} {Y : Nat → ClassId} {b : Nat} {A0 : Nat → Prop} {xs : Nat → Int32} {L : Nat} {l : Launch} {o : MOut} {h' : MHp} {mi : Nat}
/-- an instruction that moves the stack alone -/
theorem m_G.stk {pc pc2 : Nat} {i : Instr} {r r2 : MCode} {ls st st2 : List MV} {h : MHp} (K : m_G D Y b A0 xs L l o h' mi r2 ls st2 h) (hp : m_pc r2 = pc2) (hok : m_okL h.1.length ls → m_okL h.1.length st → m_okH h.1 → m_okL h.1.length st2)
    (row : ∀ (p : Program) (e : Env) (R : Room) (s : State) (m : MethodId) (args : Array Value) (below : List Frame) (meth : Method) (c : Code) (A : List Nat) (H : Heap) (locs : List Loc) (cells slots : Nat) (lsA : Array Slot) (Q : State → Prop), m_C D Y b A0 xs L p l R s m args meth c mi → m_W D Y b A0 A h H → va_S A0 s.heap H locs → m_okL h.1.length ls → m_okL h.1.length st → m_L A b ls lsA → cells ≤ R.cells → slots ≤ R.slots →
      W p l e R s m args below meth c H locs cells slots Q (F0 m pc2 lsA (st2.map (m_val A b))) → W p l e R s m args below meth c H locs cells slots Q (F0 m pc lsA (st.map (m_val A b)))) : m_G D Y b A0 xs L l o h' mi ((pc, i) :: r) ls st h := by
  refine ⟨K.1, K.2.1, ?_⟩
  intro p e R s m args below meth c hC A H locs z1 z2 lsA Q hT hE
  obtain ⟨t1, t2, t3, t4, t5, t6, t7, t8, t9, t10⟩ := id hT
  have K2 := K.2.2 p e R s m args below meth c hC A H locs z1 z2 lsA Q ⟨t1, t2, t3, t4, t5, hok t5 t6 t3.2.1, t7, t8, t9, t10⟩ hE
  rw [hp] at K2
  have k1 := K.1
  have k2 := K.2.1
  exact row p e R s m args below meth c A H locs _ _ lsA Q hC t3 t4 t5 t6 t7 (by omega) (by omega) K2
/-- a store into a local -/
theorem m_G.loc {pc pc2 k : Nat} {i : Instr} {r : MCode} {ls st st2 : List MV} {h : MHp} {v : MV} (K : m_G D Y b A0 xs L l o h' mi r (ls.set k v) st2 h) (hp : m_pc r = pc2) (hk : k < ls.length) (hv : m_cat v = 1) (hok : m_okL h.1.length ls → m_okL h.1.length st → m_okV h.1.length v ∧ m_okL h.1.length st2)
    (row : ∀ (p : Program) (e : Env) (R : Room) (s : State) (m : MethodId) (args : Array Value) (below : List Frame) (meth : Method) (c : Code) (A : List Nat) (H : Heap) (locs : List Loc) (cells slots : Nat) (lsA : Array Slot) (Q : State → Prop), m_C D Y b A0 xs L p l R s m args meth c mi → m_okL h.1.length ls → m_L A b ls lsA →
      (∀ lsB : Array Slot, m_L A b (ls.set k v) lsB → W p l e R s m args below meth c H locs cells slots Q (F0 m pc2 lsB (st2.map (m_val A b)))) → W p l e R s m args below meth c H locs cells slots Q (F0 m pc lsA (st.map (m_val A b)))) : m_G D Y b A0 xs L l o h' mi ((pc, i) :: r) ls st h := by
  refine ⟨K.1, K.2.1, ?_⟩
  intro p e R s m args below meth c hC A H locs z1 z2 lsA Q hT hE
  obtain ⟨t1, t2, t3, t4, t5, t6, t7, t8, t9, t10⟩ := id hT
  obtain ⟨hvv, hs2⟩ := hok t5 t6
  refine row p e R s m args below meth c A H locs _ _ lsA Q hC t5 t7 fun lsB hB => ?_
  have K2 := K.2.2 p e R s m args below meth c hC A H locs z1 z2 lsB Q ⟨t1, t2, t3, t4, t5.set hvv, hs2, hB, by rw [List.length_set]; exact t8, t9, t10⟩ hE
  rw [hp] at K2
  exact K2
/-- a store into the heap -/
theorem m_G.mem {pc pc2 q k : Nat} {i : Instr} {r : MCode} {ls st st2 : List MV} {h : MHp} {v : MV} (K : m_G D Y b A0 xs L l o h' mi r ls st2 (m_set h q k v)) (hp : m_pc r = pc2) (hok : m_okL h.1.length st → m_okL h.1.length st2)
    (row : ∀ (p : Program) (e : Env) (R : Room) (s : State) (m : MethodId) (args : Array Value) (below : List Frame) (meth : Method) (c : Code) (A : List Nat) (H : Heap) (locs : List Loc) (cells slots : Nat) (lsA : Array Slot) (Q : State → Prop), m_C D Y b A0 xs L p l R s m args meth c mi → m_W D Y b A0 A h H → va_S A0 s.heap H locs → m_okL h.1.length st →
      (∀ (H1 : Heap) (locs1 : List Loc), m_W D Y b A0 A (m_set h q k v) H1 → va_S A0 s.heap H1 locs1 → W p l e R s m args below meth c H1 locs1 cells slots Q (F0 m pc2 lsA (st2.map (m_val A b)))) → W p l e R s m args below meth c H locs cells slots Q (F0 m pc lsA (st.map (m_val A b)))) : m_G D Y b A0 xs L l o h' mi ((pc, i) :: r) ls st h := by
  refine ⟨K.1, K.2.1, ?_⟩
  intro p e R s m args below meth c hC A H locs z1 z2 lsA Q hT hE
  obtain ⟨t1, t2, t3, t4, t5, t6, t7, t8, t9, t10⟩ := id hT
  have hl : (m_set h q k v).1.length = h.1.length := by simp [m_set]
  refine row p e R s m args below meth c A H locs _ _ lsA Q hC t3 t4 t6 fun H1 locs1 hW1 hS1 => ?_
  have K2 := K.2.2 p e R s m args below meth c hC A H1 locs1 z1 z2 lsA Q ⟨t1, t2, hW1, hS1, by rw [hl]; exact t5, by rw [hl]; exact hok t6, t7, t8, t9, t10⟩ hE
  rw [hp] at K2
  exact K2
/-- a new cell -/
theorem m_G.new {pc pc2 tag : Nat} {i : Instr} {r : MCode} {ls st st2 : List MV} {h : MHp} {vs : List MV} (K : m_G D Y b A0 xs L l o h' mi r ls (vR h.1.length :: st2) (m_push h tag vs)) (hp : m_pc r = pc2) (hok : m_okL h.1.length st → m_okL h.1.length st2)
    (row : ∀ (p : Program) (e : Env) (R : Room) (s : State) (m : MethodId) (args : Array Value) (below : List Frame) (meth : Method) (c : Code) (A : List Nat) (H : Heap) (locs : List Loc) (cells slots : Nat) (lsA : Array Slot) (Q : State → Prop), m_C D Y b A0 xs L p l R s m args meth c mi → m_W D Y b A0 A h H → va_S A0 s.heap H locs → m_okL h.1.length st → cells + 1 ≤ R.cells → slots + vs.length ≤ R.slots →
      (∀ (q : Nat) (H1 : Heap), m_W D Y b A0 (A ++ [q]) (m_push h tag vs) H1 → va_S A0 s.heap H1 locs → W p l e R s m args below meth c H1 locs (cells + 1) (slots + vs.length) Q (F0 m pc2 lsA (.ref q :: st2.map (m_val A b)))) → W p l e R s m args below meth c H locs cells slots Q (F0 m pc lsA (st.map (m_val A b)))) : m_G D Y b A0 xs L l o h' mi ((pc, i) :: r) ls st h := by
  have k1 : h.2.1 + 1 ≤ h'.2.1 := K.1
  have k2 : h.2.2 + vs.length ≤ h'.2.2 := K.2.1
  refine ⟨by omega, by omega, ?_⟩
  intro p e R s m args below meth c hC A H locs z1 z2 lsA Q hT hE
  obtain ⟨t1, t2, t3, t4, t5, t6, t7, t8, t9, t10⟩ := id hT
  have hl : (m_push h tag vs).1.length = h.1.length + 1 := by simp [m_push]
  have hAl : A.length = h.1.length := t3.1
  refine row p e R s m args below meth c A H locs _ _ lsA Q hC t3 t4 t6 (by omega) (by omega) fun q H1 hW1 hS1 => ?_
  have hs2 := hok t6
  have K2 := K.2.2 p e R s m args below meth c hC (A ++ [q]) H1 locs z1 z2 lsA Q ⟨Nat.le_trans t1 (Nat.le_succ _), Nat.le_trans t2 (Nat.le_add_right _ _), hW1, hS1, by rw [hl]; exact t5.mono (by omega), ?_, t7.ext (by rw [hAl]; exact t5), t8, t9, t10⟩ ?_
  · rw [hp] at K2
    have e1 : (m_push h tag vs).2.1 - z1 = (h.2.1 - z1) + 1 := by show h.2.1 + 1 - z1 = _; omega
    have e2 : (m_push h tag vs).2.2 - z2 = (h.2.2 - z2) + vs.length := by show h.2.2 + vs.length - z2 = _; omega
    have e3 : (vR h.1.length :: st2).map (m_val (A ++ [q]) b) = .ref q :: st2.map (m_val A b) := by
      rw [List.map_cons, m_map_ext (by rw [hAl]; exact hs2)]
      congr 1
      show Value.ref _ = Value.ref _
      rw [List.getD_eq_getElem?_getD, ← hAl]
      simp
    rw [e1, e2, e3] at K2
    exact K2
  · rw [hl]
    exact m_okL.cons (show h.1.length < h.1.length + 1 by omega) (hs2.mono (by omega))
  · refine ⟨fun v hv X H' locs' pc' lsA' w1 w2 w3 w4 => ?_, fun E hE2 => ?_⟩
    · rw [List.append_assoc] at w1 ⊢
      exact hE.1 v hv _ H' locs' pc' lsA' w1 w2 w3 w4
    · obtain ⟨g0, Qc, XC, mc, ms, g1, g2, g3, g4⟩ := hE.2 E hE2
      exact ⟨g0, Qc, XC, mc, ms, g1, g2, g3, fun X t w1 w2 w3 => g4 ([q] ++ X) t (by rw [← List.append_assoc]; exact w1) w2 w3⟩
end G
