/-! ===== what the small machine's values and heap are in the machine's ===== -/
def m_okV (n : Nat) : MV → Prop
  | .inl a => m_in a
  | .inr (.inl (some o)) => o < n
  | _ => True
def m_okL (n : Nat) (l : List MV) : Prop := ∀ v ∈ l, m_okV n v
def m_okH (h : List (Nat × List MV)) : Prop := ∀ c ∈ h, m_okL h.length c.2
theorem m_okV.mono {n n' : Nat} {v : MV} (h : m_okV n v) (hn : n ≤ n') : m_okV n' v := by
  rcases v with a | (_ | o) | x | x | x | x
  · exact h
  · exact h
  · exact Nat.lt_of_lt_of_le (show o < n from h) hn
  · exact h
  · exact h
  · exact h
  · exact h
theorem m_okL.mono {n n' : Nat} {l : List MV} (h : m_okL n l) (hn : n ≤ n') : m_okL n' l := fun v hv => (h v hv).mono hn
theorem m_okL.cons {n : Nat} {v : MV} {l : List MV} (h1 : m_okV n v) (h2 : m_okL n l) : m_okL n (v :: l) := by
  intro w hw
  rcases List.mem_cons.mp hw with rfl | hw
  · exact h1
  · exact h2 w hw
theorem m_okL.head {n : Nat} {v : MV} {l : List MV} (h : m_okL n (v :: l)) : m_okV n v := h v List.mem_cons_self
theorem m_okL.tail {n : Nat} {v : MV} {l : List MV} (h : m_okL n (v :: l)) : m_okL n l := fun w hw => h w (List.mem_cons_of_mem _ hw)
theorem m_okL.set {n k : Nat} {v : MV} {l : List MV} (h : m_okL n l) (hv : m_okV n v) : m_okL n (l.set k v) := by
  intro w hw
  rcases List.mem_or_eq_of_mem_set hw with h1 | h1
  · exact h w h1
  · rw [h1]; exact hv
theorem m_okL.get {n k : Nat} {v : MV} {l : List MV} (h : m_okL n l) (hv : l[k]? = some v) : m_okV n v := h v (List.mem_of_getElem? hv)
theorem m_val_ext {A X : List Nat} {b : Nat} {v : MV} (h : m_okV A.length v) : m_val (A ++ X) b v = m_val A b v := by
  rcases v with a | (_ | o) | x | x | x | (_ | _)
  · rfl
  · rfl
  · have h1 : o < A.length := h
    show Value.ref _ = Value.ref _
    rw [List.getD_eq_getElem?_getD, List.getD_eq_getElem?_getD, List.getElem?_append_left h1]
  · rfl
  · rfl
  · rfl
  · rfl
  · rfl
theorem m_map_ext {A X : List Nat} {b : Nat} {l : List MV} (h : m_okL A.length l) : l.map (m_val (A ++ X) b) = l.map (m_val A b) :=
  List.map_congr_left fun v hv => m_val_ext (h v hv)
def m_toI : MV → Int
  | .inl a => a
  | _ => 0
def m_toF : MV → UInt32
  | .inr (.inr (.inl x)) => x
  | _ => 0
def m_toL : MV → Int64
  | .inr (.inr (.inr (.inl x))) => x
  | _ => 0
def m_toD : MV → UInt64
  | .inr (.inr (.inr (.inr (.inl x)))) => x
  | _ => 0
def m_toR (A : List Nat) : MV → Option Nat
  | .inr (.inl (some o)) => some (A.getD o 0)
  | _ => none
def m_row (A : List Nat) (t : Nat) (vs : List MV) : vp_A := (vs.length, if t = 22 then .inr (.inr (.inl (fun j => m_toF (vs.getD j vN)))) else if t = 23 then .inr (.inl (fun j => m_toL (vs.getD j vN))) else if t = 24 then .inr (.inr (.inr (.inl (fun j => m_toD (vs.getD j vN))))) else if t < 22 then .inl (fun j => Int32.ofInt (m_toI (vs.getD j vN))) else .inr (.inr (.inr (.inr (fun j => m_toR A (vs.getD j vN))))))
def m_ent (Y : Nat → ClassId) (A : List Nat) (b : Nat) (c : Nat × List MV) : va_E := if c.1 < 20 then .inr (c.1, c.2.map (m_val A b)) else .inl (Y c.1, m_row A c.1 c.2)
theorem m_ent_ext {Y : Nat → ClassId} {A X : List Nat} {b : Nat} {c : Nat × List MV} (h : m_okL A.length c.2) : m_ent Y (A ++ X) b c = m_ent Y A b c := by
  unfold m_ent
  rw [m_map_ext h]
  have e : (fun j => m_toR (A ++ X) (c.2.getD j vN)) = (fun j => m_toR A (c.2.getD j vN)) := by
    funext j
    rw [List.getD_eq_getElem?_getD]
    cases hj : c.2[j]? with
    | none => rfl
    | some v =>
      have hv := h.get hj
      rcases v with a | (_ | o) | x | x | x | x
      · rfl
      · rfl
      · have h1 : o < A.length := hv
        show some _ = some _
        rw [List.getD_eq_getElem?_getD, List.getD_eq_getElem?_getD, List.getElem?_append_left h1]
      · rfl
      · rfl
      · rfl
      · rfl
  unfold m_row
  rw [e]
def m_ws (Y : Nat → ClassId) (A : List Nat) (b : Nat) (h : List (Nat × List MV)) : va_W := List.zipWith (fun a c => (a, m_ent Y A b c)) A h
theorem m_ws_get {Y : Nat → ClassId} {A : List Nat} {b : Nat} {h : List (Nat × List MV)} (hl : A.length = h.length) {o : Nat} {c : Nat × List MV} (hc : h[o]? = some c) : (m_ws Y A b h)[o]? = some (A.getD o 0, m_ent Y A b c) := by
  have ho : o < A.length := by rw [hl]; exact (List.getElem?_eq_some_iff.mp hc).1
  unfold m_ws
  rw [List.getElem?_zipWith, hc, List.getElem?_eq_getElem ho]
  simp [ho]
theorem m_modify {α : Type} (f : α → α) : ∀ {l : List α} {k : Nat} {c : α}, l[k]? = some c → l.modify k f = l.set k (f c)
  | [], k, c, h => by simp at h
  | x :: l, 0, c, h => by
    simp at h
    subst h
    simp
  | x :: l, k + 1, c, h => by
    simp at h
    simp [m_modify f h]
theorem m_ws_set {Y : Nat → ClassId} {b o : Nat} {c' : Nat × List MV} {B : List Nat} : ∀ {A : List Nat} {h : List (Nat × List MV)}, A.length = h.length → o < h.length →
    List.zipWith (fun a c => (a, m_ent Y B b c)) A (h.set o c') = (List.zipWith (fun a c => (a, m_ent Y B b c)) A h).set o (A.getD o 0, m_ent Y B b c') := by
  induction o with
  | zero =>
    intro A h hl ho
    cases A with
    | nil => simp at hl; omega
    | cons a A =>
      cases h with
      | nil => simp at ho
      | cons c h => simp
  | succ o ih =>
    intro A h hl ho
    cases A with
    | nil => simp at hl; omega
    | cons a A =>
      cases h with
      | nil => simp at ho
      | cons c h =>
        simp only [List.length_cons, Nat.add_right_cancel_iff] at hl
        simp only [List.length_cons] at ho
        simp [ih hl (by omega)]
theorem m_ws_push {Y : Nat → ClassId} {A : List Nat} {b q : Nat} {h : List (Nat × List MV)} {c : Nat × List MV} (hl : A.length = h.length) (hk : m_okH h) (hc : m_okL h.length c.2) : m_ws Y (A ++ [q]) b (h ++ [c]) = m_ws Y A b h ++ [(q, m_ent Y A b c)] := by
  unfold m_ws
  rw [List.zipWith_append hl]
  congr 1
  · have : ∀ (A' : List Nat) (h' : List (Nat × List MV)), (∀ c ∈ h', m_okL A.length c.2) → List.zipWith (fun a c => (a, m_ent Y (A ++ [q]) b c)) A' h' = List.zipWith (fun a c => (a, m_ent Y A b c)) A' h' := by
      intro A' h'
      induction A' generalizing h' with
      | nil => intro _; rfl
      | cons a A' ih =>
        intro hh
        cases h' with
        | nil => rfl
        | cons c h' =>
          simp only [List.zipWith_cons_cons]
          rw [m_ent_ext (hh c List.mem_cons_self), ih h' (fun c hc => hh c (List.mem_cons_of_mem _ hc))]
    exact this A h (fun c hc => by rw [hl]; exact hk c hc)
  · simp only [List.zipWith_cons_cons, List.zipWith_nil_right]
    rw [m_ent_ext (by rw [hl]; exact hc)]
/-- the classes of the arrays, by their kind -/
def m_tys (Y : Nat → ClassId) : List (ClassId × FieldType) := [(Y 20, .int), (Y 21, .boolean), (Y 22, .float), (Y 23, .long), (Y 24, .double), (Y 31, .object RX1), (Y 33, .object RX3), (Y 35, .object RX5), (Y 36, .object RX6), (Y 37, .object RX7), (Y 38, .object RX8)]
/-- the world: the heap H holds the cells of h, at the addresses A -/
def m_W (D : va_G) (Y : Nat → ClassId) (b : Nat) (A0 : Nat → Prop) (A : List Nat) (h : MHp) (H : Heap) : Prop := A.length = h.1.length ∧ m_okH h.1 ∧ va_P D vwCl (m_ws Y A b h.1) H ∧ va_D A0 (m_ws Y A b h.1)
theorem m_okH.set {h : List (Nat × List MV)} (hk : m_okH h) {o k : Nat} {c : Nat × List MV} (hc : h[o]? = some c) {v : MV} (hv : m_okV h.length v) : m_okH (h.set o (c.1, c.2.set k v)) := by
  intro x hx
  rw [List.length_set]
  rcases List.mem_or_eq_of_mem_set hx with h1 | h1
  · exact hk x h1
  · rw [h1]
    exact (hk c (List.mem_of_getElem? hc)).set hv
theorem m_okH.push {h : List (Nat × List MV)} (hk : m_okH h) {c : Nat × List MV} (hc : m_okL h.length c.2) : m_okH (h ++ [c]) := by
  intro x hx
  rw [List.length_append]
  rcases List.mem_append.mp hx with h1 | h1
  · exact (hk x h1).mono (by omega)
  · rw [List.mem_singleton.mp h1]
    exact hc.mono (by omega)
theorem m_W.kept {D : va_G} {Y : Nat → ClassId} {b : Nat} {A0 : Nat → Prop} {A : List Nat} {h : MHp} {H H1 : Heap} (hW : m_W D Y b A0 A h H) (hk : ∀ q : Nat, q < H.size → H1[q]? = H[q]?) : m_W D Y b A0 A h H1 :=
  ⟨hW.1, hW.2.1, hW.2.2.1.kept (fun k q hq => hk q.1 (hW.2.2.1 k q hq).lt), hW.2.2.2⟩
theorem m_W.cnt {D : va_G} {Y : Nat → ClassId} {b : Nat} {A0 : Nat → Prop} {A : List Nat} {h : MHp} {H : Heap} (hW : m_W D Y b A0 A h H) {n k : Nat} : m_W D Y b A0 A (h.1, n, k) H := hW
theorem m_W.get {D : va_G} {Y : Nat → ClassId} {b : Nat} {A0 : Nat → Prop} {A : List Nat} {h : MHp} {H : Heap} (hW : m_W D Y b A0 A h H) {o : Nat} {c : Nat × List MV} (hc : h.1[o]? = some c) : (m_ws Y A b h.1)[o]? = some (A.getD o 0, m_ent Y A b c) := m_ws_get hW.1 hc
theorem m_W.put {D : va_G} {Y : Nat → ClassId} {b : Nat} {A0 : Nat → Prop} {A : List Nat} {h : MHp} {H H1 : Heap} (hW : m_W D Y b A0 A h H) {o k : Nat} {c : Nat × List MV} (hc : h.1[o]? = some c) {v : MV} (hv : m_okV h.1.length v)
    (hP : va_P D vwCl ((m_ws Y A b h.1).set o (A.getD o 0, m_ent Y A b (c.1, c.2.set k v))) H1) (hD : va_D A0 ((m_ws Y A b h.1).set o (A.getD o 0, m_ent Y A b (c.1, c.2.set k v)))) : m_W D Y b A0 A (m_set h o k v) H1 := by
  have ho : o < h.1.length := (List.getElem?_eq_some_iff.mp hc).1
  have e1 : (m_set h o k v).1 = h.1.set o (c.1, c.2.set k v) := m_modify _ hc
  have e2 : m_ws Y A b (h.1.set o (c.1, c.2.set k v)) = (m_ws Y A b h.1).set o (A.getD o 0, m_ent Y A b (c.1, c.2.set k v)) := m_ws_set hW.1 ho
  refine ⟨?_, ?_, ?_, ?_⟩
  · rw [e1, List.length_set]; exact hW.1
  · rw [e1]; exact hW.2.1.set hc hv
  · rw [e1, e2]; exact hP
  · rw [e1, e2]; exact hD
theorem m_W.push {D : va_G} {Y : Nat → ClassId} {b q : Nat} {A0 : Nat → Prop} {A : List Nat} {h : MHp} {H1 : Heap} {tag : Nat} {vs : List MV} (hl : A.length = h.1.length) (hk : m_okH h.1) (hv : m_okL h.1.length vs)
    (hP : va_P D vwCl (m_ws Y A b h.1 ++ [(q, m_ent Y A b (tag, vs))]) H1) (hD : va_D A0 (m_ws Y A b h.1 ++ [(q, m_ent Y A b (tag, vs))])) : m_W D Y b A0 (A ++ [q]) (m_push h tag vs) H1 := by
  have e2 : m_ws Y (A ++ [q]) b (h.1 ++ [(tag, vs)]) = m_ws Y A b h.1 ++ [(q, m_ent Y A b (tag, vs))] := m_ws_push hl hk hv
  refine ⟨?_, ?_, ?_, ?_⟩
  · show (A ++ [q]).length = (h.1 ++ [(tag, vs)]).length
    simp [hl]
  · exact hk.push hv
  · show va_P D vwCl (m_ws Y (A ++ [q]) b (h.1 ++ [(tag, vs)])) H1
    rw [e2]; exact hP
  · show va_D A0 (m_ws Y (A ++ [q]) b (h.1 ++ [(tag, vs)]))
    rw [e2]; exact hD
