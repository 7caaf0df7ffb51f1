/-! ===== minutes in which nothing happens ===== -/
theorem arA_id {D : Sg} {m : Int} {s : St} {T : Nat} (h : ∀ t, t < T → ¬ due s.1 t = m) : ∀ t, t ≤ T → arA D m t s = s
  | 0, _ => rfl
  | t + 1, ht => by
    unfold arA
    rw [arA_id h t (by omega), if_neg (h t ht)]
theorem deA_id {D : Sg} {m : Int} {s : St} {T : Nat} (h : ∀ t, t < T → ¬ lev D s.1 t m) : ∀ t, t ≤ T → deA D m t s = s
  | 0, _ => rfl
  | t + 1, ht => by
    unfold deA
    rw [deA_id h t (by omega), if_neg (h t ht)]
theorem mnA_id {D : Sg} {m : Int} {s : St} {T : Nat} (hT : D 2004 0 0 = T) (h1 : ∀ t, t < T → ¬ due s.1 t = m) (h2 : ∀ t, t < T → ¬ lev D s.1 t m) : mnA D m s = s := by
  have hT2 : (D 2004 0 0).toNat ≤ T := by omega
  unfold mnA
  rw [arA_id h1 _ hT2, deA_id h2 _ hT2]
theorem due_arr {D : Sg} {s : St} {t u : Nat} {m : Int} : due (arr D s t m).1 u = if u = t then 1000000 else due s.1 u := by
  unfold due
  rw [arr_f (by decide) (by decide) (by decide), arr_f (by decide) (by decide) (by decide), arr_f (by decide) (by decide) (by decide)]
  rw [up_f (show ¬ 82 = 81 by decide), up_f (show ¬ 79 = 81 by decide), up_f (show ¬ 79 = 82 by decide)]
  by_cases h : u = t
  · subst h
    rw [up_s, if_pos rfl, if_pos rfl]
  · rw [if_neg h, up_k h, up_k h, up_f (by decide)]
theorem due_dep {D : Sg} {T C : Nat} {s : St} {t u : Nat} {m : Int} (wp : WP D T C) (ht : t < T) (hu : u < T) (h0 : 0 ≤ s.1 81 0 t) (h1 : s.1 81 0 t + 2 ≤ D 54 0 t) (hu0 : 0 ≤ s.1 81 0 u) (hu1 : s.1 81 0 u + 1 ≤ D 54 0 u) :
    due (dep D s t m).1 u = if u = t then (m + D 57 0 (6 * t + (s.1 81 0 t).toNat + 1) + D 60 0 (6 * t + (s.1 81 0 t).toNat + 1) + if D 51 0 (6 * t + (s.1 81 0 t).toNat) = D 51 0 (6 * t + (s.1 81 0 t).toNat + 1) then 0 else 15) else due s.1 u := by
  have hT : T ≤ 6 := wp.2.2.1
  have k2 := wp.2.2.2.2.1 t (by omega)
  have k3 := wp.2.2.2.2.1 u (by omega)
  unfold due
  rw [dep_f (by decide) (by decide) (by decide) (by decide) (by decide), dep_f (by decide) (by decide) (by decide) (by decide) (by decide), dep_f (by decide) (by decide) (by decide) (by decide) (by decide)]
  rw [up_f (show ¬ 81 = 79 by decide), up_f (show ¬ 81 = 82 by decide), up_f (show ¬ 81 = 85 by decide), up_f (show ¬ 81 = 86 by decide), up_f (show ¬ 81 = 80 by decide), up_f (show ¬ 82 = 79 by decide)]
  by_cases h : u = t
  · subst h
    rw [up_s, if_neg (by decide), if_pos rfl, up_s]
  · rw [if_neg h, up_k h, up_f (show ¬ 82 = 85 by decide), up_f (show ¬ 82 = 86 by decide), up_f (show ¬ 82 = 80 by decide), up_k (by omega), up_f (by decide), up_f (by decide), up_f (by decide), up_f (by decide)]
theorem Wm_arA {D : Sg} {T C : Nat} {m : Int} (wp : WP D T C) (hm : 0 ≤ m ∧ m < 2000) {s : St} (h : Wm s.1 T m) : ∀ t, t ≤ T → Wm (arA D m t s).1 T m ∧ ∀ u, u < t → m + 1 ≤ due (arA D m t s).1 u
  | 0, _ => ⟨h, fun u hu => by omega⟩
  | t + 1, ht => by
    obtain ⟨i1, i2⟩ := Wm_arA wp hm h t (by omega)
    unfold arA
    split
    · refine ⟨fun u hu => ?_, fun u hu => ?_⟩
      · rw [due_arr]
        split
        · omega
        · exact i1 u hu
      · rw [due_arr]
        split
        · omega
        · exact i2 u (by omega)
    · rename_i hne
      refine ⟨i1, fun u hu => ?_⟩
      by_cases hut : u = t
      · subst hut
        have := i1 u (by omega)
        omega
      · exact i2 u (by omega)
theorem Wm_deA {D : Sg} {T C : Nat} {m : Int} (wp : WP D T C) (hm : 0 ≤ m ∧ m < 2000) {s : St} (w : WN D T C s) (h : Wm s.1 T (m + 1)) : ∀ t, t ≤ T → Wm (deA D m t s).1 T (m + 1)
  | 0, _ => h
  | t + 1, ht => by
    have ih := Wm_deA wp hm w h t (by omega)
    have iw := WN_deA wp hm t s (by omega) w
    unfold deA
    split
    · rename_i hd
      obtain ⟨h0, h1⟩ := lev_1 hd hm.2
      intro u hu
      have a1 := iw.1 u hu
      have a2 := iw.1 t ht
      have hT : T ≤ 6 := wp.2.2.1
      have k2 := wp.2.2.2.2.1 t (by omega)
      rw [due_dep wp ht hu a2.1 h1 a1.1 a1.2.1]
      split
      · have kn := wp.2.2.2.2.2.1 (6 * t + ((deA D m t s).1 81 0 t).toNat + 1) (by omega)
        have kr := wp.2.2.2.2.2.2.2.2.2 t (((deA D m t s).1 81 0 t).toNat + 1) ht (by omega) (by omega)
        rw [← Nat.add_assoc] at kr
        split <;> omega
      · exact ih u hu
    · exact ih
theorem Wm_mnA {D : Sg} {T C : Nat} {m : Int} {s : St} (wp : WP D T C) (hm : 0 ≤ m ∧ m < 2000) (w : WN D T C s) (h : Wm s.1 T m) : Wm (mnA D m s).1 T (m + 1) := by
  have hT : (D 2004 0 0).toNat = T := by have := wp.1; omega
  unfold mnA
  rw [hT]
  refine Wm_deA wp hm (WN_arA wp hm _ _ (by omega) w) (fun u hu => ?_) _ (by omega)
  exact (Wm_arA wp hm h T (by omega)).2 u hu
theorem Wm_ruA {D : Sg} {T C : Nat} (wp : WP D T C) : ∀ m : Nat, m ≤ 2000 → Wm (ruA D m).1 T m
  | 0, _ => fun t _ => by simp [ruA, begA, begN, due]
  | m + 1, h => by
    have := Wm_mnA wp (by omega) (WN_ruA wp m (by omega)) (Wm_ruA wp m (by omega))
    exact this
/-! ===== who waited waits on ===== -/
theorem mis_dep {D : Sg} {s : St} {t u c : Nat} {here m : Int} (hh : 0 ≤ here) (h : misA D s.1 u here m c) : misA D (dep D s t m).1 u here m c := by
  obtain ⟨h1, p, h2, h3, h4, h5, h6⟩ := h
  have e90 : (dep D s t m).1 90 0 c = s.1 90 0 c := by
    rw [dep_c (by simp), de3_f (by decide) (by decide)]
  refine ⟨h1, p, by rw [e90]; exact h2, h3, h4, h5, ?_⟩
  rw [e90]
  rcases h6 with h6 | h6
  · exact Or.inl h6
  · refine Or.inr (fun hz => h6 ?_)
    rw [dep_c (by simp), dep_c (by simp)] at hz
    exact rdy_drL _ _ (rdy_coL hh _ _ (rdy_heL _ _ hz))
theorem lev_dep {D : Sg} {T C : Nat} {s : St} {t u : Nat} {m : Int} (wp : WP D T C) (ht : t < T) (hu : u < T) (hm : m < 2000) (h0 : 0 ≤ s.1 81 0 t) (h1 : s.1 81 0 t + 2 ≤ D 54 0 t) (hu0 : 0 ≤ s.1 81 0 u) (hu1 : s.1 81 0 u + 1 ≤ D 54 0 u) (h : lev D (dep D s t m).1 u m) : ¬ u = t ∧ lev D s.1 u m := by
  have hT : T ≤ 6 := wp.2.2.1
  have k2 := wp.2.2.2.2.1 t (by omega)
  have k3 := wp.2.2.2.2.1 u (by omega)
  have e82 : (dep D s t m).1 82 0 u = if u = t then 1 else s.1 82 0 u := by
    rw [dep_f (by decide) (by decide) (by decide) (by decide) (by decide), up_f (by decide)]
    by_cases hut : u = t
    · subst hut; rw [up_s, if_pos rfl]
    · rw [if_neg hut, up_k hut, up_f (by decide), up_f (by decide), up_f (by decide)]
  have hut : ¬ u = t := by
    intro hz
    have := lev_1 h hm
    rw [e82, if_pos hz] at this
    omega
  rw [if_neg hut] at e82
  have e81 : (dep D s t m).1 81 0 u = s.1 81 0 u := by
    rw [dep_f (by decide) (by decide) (by decide) (by decide) (by decide), up_f (by decide), up_f (by decide), up_f (by decide), up_f (by decide), up_f (by decide)]
  have e79 : (dep D s t m).1 79 0 (6 * u + (s.1 81 0 u).toNat) = s.1 79 0 (6 * u + (s.1 81 0 u).toNat) := by
    rw [dep_f (by decide) (by decide) (by decide) (by decide) (by decide), up_k (by omega), up_f (by decide), up_f (by decide), up_f (by decide), up_f (by decide)]
  refine ⟨hut, ?_⟩
  unfold lev rpe pnd at h ⊢
  rw [e81, e82, e79] at h
  refine ⟨h.1, h.2.imp id (fun hz c hc hmis => hz c hc (mis_dep ?_ hmis))⟩
  exact (wp_here wp (by omega)).1
theorem qut_deA {D : Sg} {T C : Nat} {m : Int} (wp : WP D T C) (hm : 0 ≤ m ∧ m < 2000) {s : St} (w : WN D T C s) : ∀ t, t ≤ T → ∀ u, u < t → ¬ lev D (deA D m t s).1 u m
  | 0, _ => fun u hu => by omega
  | t + 1, ht => by
    have ih := qut_deA wp hm w t (by omega)
    have iw := WN_deA wp hm t s (by omega) w
    intro u hu
    unfold deA
    split
    · rename_i hd
      obtain ⟨h0, h1⟩ := lev_1 hd hm.2
      intro hz
      have a1 := iw.1 u (by omega)
      have a2 := iw.1 t ht
      obtain ⟨b1, b2⟩ := lev_dep wp ht (by omega) hm.2 a2.1 h1 a1.1 a1.2.1 hz
      exact ih u (by omega) b2
    · rename_i hd
      by_cases hut : u = t
      · subst hut; exact hd
      · exact ih u (by omega)
def qut (D : Sg) (T : Nat) (N : Sg) (m : Int) : Prop := ∀ t, t < T → ¬ lev D N t m
theorem qut_ruA {D : Sg} {T C : Nat} (wp : WP D T C) : ∀ m : Nat, m ≤ 2000 → qut D T (ruA D m).1 ((m : Int) - 1)
  | 0, _ => fun t ht hl => by
    have hT : T ≤ 6 := wp.2.2.1
    have k1 := wp.2.2.2.2.2.1 (6 * t) (by omega)
    have := hl.1
    simp [ruA, begA, begN, rpe] at this
    split at this <;> omega
  | m + 1, h => by
    have hT : (D 2004 0 0).toNat = T := by have := wp.1; omega
    have e : ((m + 1 : Nat) : Int) - 1 = m := by omega
    rw [e]
    intro t ht
    unfold ruA mnA
    rw [hT]
    exact qut_deA wp (by omega) (WN_arA wp (by omega) _ _ (by omega) (WN_ruA wp m (by omega))) T (by omega) t ht
/-- from when on a coach is ready; none with a train -/
def rdc (N : Sg) (c : Nat) : Int := if N 88 0 c = -1 then -1 else N 89 0 c
/-- x is the next minute in which something can happen -/
def nxt (D N : Sg) (T C : Nat) (now x : Int) : Prop := now < x ∧ x ≤ 2000 ∧
  (∀ t, t < T → ¬ (now < due N t ∧ due N t < x) ∧ ¬ (now < rpe D N t ∧ rpe D N t < x) ∧ (rpe D N t = 1000000 ∨ ¬ (now < pnd D N t ∧ pnd D N t < x))) ∧
  ∀ c, c < C → ¬ (now < rdc N c ∧ rdc N c < x)
theorem qut_on {D : Sg} {T C : Nat} {N : Sg} {now x m : Int} (wp : WP D T C) (wt : WT D N T) (hx : nxt D N T C now x) (h1 : now < m) (h2 : m < x) (h : qut D T N now) : qut D T N m := by
  intro t ht hl
  have hT : T ≤ 6 := wp.2.2.1
  obtain ⟨x1, x2, x3, x4⟩ := hx
  obtain ⟨y1, y2, y3⟩ := x3 t ht
  obtain ⟨l1, l2⟩ := hl
  have k1 := wt t ht
  have k2 := wp.2.2.2.2.1 t (by omega)
  refine h t ht ⟨by omega, ?_⟩
  rcases l2 with l2 | l2
  · exact Or.inl (by omega)
  · refine Or.inr (fun c hc hmis => l2 c hc ?_)
    obtain ⟨h1, p, h2, h3, h4, h5, h6⟩ := hmis
    refine ⟨h1, p, h2, h3, h4, h5, h6.imp id (fun hz hr => hz ⟨hr.1, ?_⟩)⟩
    have hcc := x4 c (by have := wp.2.1; omega)
    have hh := (wp_here wp (show 6 * t + (N 81 0 t).toNat < 36 by omega)).1
    unfold rdc at hcc
    rw [if_neg (by omega)] at hcc
    omega
theorem ruA_ev {D : Sg} {T C n : Nat} {x : Int} (wp : WP D T C) (hn : n ≤ 2000) (hx : nxt D (ruA D n).1 T C ((n : Int) - 1) x) : ∀ z : Nat, (n + z : Int) ≤ x → ruA D (n + z) = ruA D n
  | 0, _ => rfl
  | z + 1, hz => by
    have ih := ruA_ev wp hn hx z (by omega)
    have hx2 := hx.2.1
    show mnA D ((n + z : Nat) : Int) (ruA D (n + z)) = ruA D n
    rw [ih]
    have hq := qut_on (m := ((n + z : Nat) : Int)) wp (WN_ruA wp n hn).1 hx (by omega) (by omega) (qut_ruA wp n hn)
    refine mnA_id wp.1 (fun t ht hd => ?_) hq
    have := (hx.2.2.1 t ht).1
    omega
theorem ruA_end {D : Sg} {T C n : Nat} (wp : WP D T C) (hn : n ≤ 2000) (h : ∀ t, t < T → D 54 0 t ≤ (ruA D n).1 81 0 t + 1) : ∀ z : Nat, n + z ≤ 2000 → ruA D (n + z) = ruA D n
  | 0, _ => rfl
  | z + 1, hz => by
    have ih := ruA_end wp hn h z (by omega)
    show mnA D ((n + z : Nat) : Int) (ruA D (n + z)) = ruA D n
    rw [ih]
    have wt := (WN_ruA wp n hn).1
    refine mnA_id wp.1 (fun t ht hd => ?_) (fun t ht hl => ?_)
    · have h1 := h t ht
      have h2 := wt t ht
      have := due_1 hd (by omega)
      omega
    · have h1 := h t ht
      have := lev_1 hl (by omega)
      omega
