/-! ===== what a night keeps to ===== -/
theorem setL_s {l : Ls} {t : Nat} {x : List Nat} : setL l t x t = x := if_pos rfl
theorem setL_n {l : Ls} {t u : Nat} {x : List Nat} (h : ¬ u = t) : setL l t x u = l u := if_neg h
theorem setL_self {l : Ls} {t : Nat} : setL l t (l t) = l := by
  funext u
  unfold setL
  split
  · rename_i h; rw [h]
  · rfl
theorem setL_setL {l : Ls} {t : Nat} {x y : List Nat} : setL (setL l t x) t y = setL l t y := by
  funext u
  unfold setL
  split <;> rfl
theorem up_self {S : Sg} {F I K : Nat} : up S F I K (S F I K) = S := by
  funext f i k
  simp only [up]
  split
  · rename_i h; obtain ⟨rfl, rfl, rfl⟩ := h; rfl
  · rfl
/-! ===== families that are kept ===== -/
theorem oOut_f {N : Sg} {c f i k : Nat} {a m : Int} (h1 : ¬ f = 88) (h2 : ¬ f = 89) : oOut N c a m f i k = N f i k := by
  unfold oOut
  rw [up_f h2, up_f h1]
theorem oOut_k {N : Sg} {c f i k : Nat} {a m : Int} (h : ¬ k = c) : oOut N c a m f i k = N f i k := by
  simp only [oOut, up]
  rw [if_neg (fun z => h z.2.2), if_neg (fun z => h z.2.2)]
theorem oOut_88 {N : Sg} {c : Nat} {a m : Int} : oOut N c a m 88 0 c = a := by
  unfold oOut
  rw [up_f (by decide), up_s]
theorem oOut_89 {N : Sg} {c : Nat} {a m : Int} : oOut N c a m 89 0 c = m + 10 := by
  unfold oOut
  rw [up_s]
theorem arL_f {D : Sg} {here m : Int} {last : Bool} {f i k : Nat} (h1 : ¬ f = 88) (h2 : ¬ f = 89) (h3 : ¬ f = 90) : ∀ (l : List Nat) (N : Sg), (arL D here m last l N).1 f i k = N f i k
  | [], _ => rfl
  | c :: l, N => by
    unfold arL
    split
    · rw [arL_f h1 h2 h3 l, up_f h3, oOut_f h1 h2]
    · exact arL_f h1 h2 h3 l N
theorem drL_f {D : Sg} {own : Nat} {here m : Int} {f i k : Nat} (h1 : ¬ f = 88) (h2 : ¬ f = 89) : ∀ (l : List Nat) (N : Sg), (drL D own here m l N).1 f i k = N f i k
  | [], _ => rfl
  | c :: l, N => by
    unfold drL
    split
    · exact drL_f h1 h2 l N
    · rw [drL_f h1 h2 l, oOut_f h1 h2]
theorem coL_f {D : Sg} {t own : Nat} {here m : Int} {f i k : Nat} (h1 : ¬ f = 88) : ∀ (c : Nat) (s : Sg × List Nat), (coL D t own here m c s).1 f i k = s.1 f i k
  | 0, _ => rfl
  | c + 1, s => by
    unfold coL
    split
    · show up _ _ _ _ _ f i k = _
      rw [up_f h1, coL_f h1 c s]
    · exact coL_f h1 c s
theorem heL_f {D : Sg} {t : Nat} {here m : Int} {f i k : Nat} (h1 : ¬ f = 88) (h2 : ¬ f = 89) : ∀ (z : Nat) (s : Sg × List Nat), (heL D t here m z s).1 f i k = s.1 f i k
  | 0, _ => rfl
  | z + 1, s => by
    unfold heL
    split
    · rw [heL_f h1 h2 z]
      exact oOut_f h1 h2
    · rfl
theorem seL_f {D : Sg} {own q : Nat} {f i k : Nat} (h1 : ¬ f = 87) (h2 : ¬ f = 91) (h3 : ¬ f = 93) : ∀ (l : List Nat) (j : Nat) (N : Sg), (seL D own q l j N) f i k = N f i k
  | [], _, _ => rfl
  | c :: l, j, N => by
    unfold seL
    rw [seL_f h1 h2 h3 l, seS, up_f h3, up_f h2, up_f h1]
theorem de3_f {D : Sg} {s : St} {t : Nat} {m : Int} {f i k : Nat} (h1 : ¬ f = 88) (h2 : ¬ f = 89) : (de3 D s t m).1 f i k = s.1 f i k := by
  unfold de3
  rw [heL_f h1 h2]
  unfold de2
  rw [coL_f h1]
  unfold de1
  exact drL_f h1 h2 _ _
/-! ===== coaches and the lists in which they are ===== -/
def V (D N : Sg) (l : Ls) (T C : Nat) : Prop := WL D N l T C ∧ WC D N C
theorem V_ext {D N N2 : Sg} {l : Ls} {T C : Nat} (h : V D N l T C) (h1 : ∀ c, N2 88 0 c = N 88 0 c) (h2 : ∀ c, N2 89 0 c = N 89 0 c) (h3 : ∀ c, N2 90 0 c = N 90 0 c) : V D N2 l T C := by
  obtain ⟨⟨a1, a2⟩, b⟩ := h
  refine ⟨⟨fun t ht => ⟨(a1 t ht).1, fun c hc => ?_⟩, a2⟩, fun c hc => ?_⟩
  · rw [h1, h3]; exact (a1 t ht).2 c hc
  · rw [h1, h2, h3]; exact b c hc
theorem V_out2 {D N : Sg} {l : Ls} {T C t c : Nat} {a m v : Int} {p r : List Nat} (ht : t < T) (ha : 0 ≤ a ∧ a < 10) (hm : 0 ≤ m ∧ m < 2000) (hv : v = N 90 0 c ∨ v = N 90 0 c + 1) (h : V D N (setL l t (p ++ c :: r)) T C) : V D (up (oOut N c a m) 90 0 c v) (setL l t (p ++ r)) T C := by
  obtain ⟨⟨a1, a2⟩, b⟩ := h
  have hc1 := a1 t ht
  rw [setL_s] at hc1
  obtain ⟨hn, hin⟩ := hc1
  have hcin := hin c (by simp)
  have hsub : (p ++ r).Sublist (p ++ c :: r) := (List.sublist_cons_self c r).append_left p
  have hcn : c ∉ p ++ r := by
    rw [List.nodup_append] at hn
    obtain ⟨n1, n2, n3⟩ := hn
    rw [List.nodup_cons] at n2
    intro hz
    rcases List.mem_append.mp hz with hz | hz
    · exact n3 c hz c (by simp) rfl
    · exact n2.1 hz
  have hmem : ∀ u d, d ∈ setL l t (p ++ r) u → d ∈ setL l t (p ++ c :: r) u := by
    intro u d hd
    by_cases hu : u = t
    · subst hu
      rw [setL_s] at hd ⊢
      exact hsub.subset hd
    · rw [setL_n hu] at hd ⊢
      exact hd
  have hne : ∀ u d, u < T → d ∈ setL l t (p ++ r) u → ¬ d = c := by
    intro u d hu hd hdc
    subst hdc
    by_cases hut : u = t
    · subst hut
      rw [setL_s] at hd
      exact hcn hd
    · exact hut (a2 u t d hu ht (hmem u d hd) (by rw [setL_s]; simp))
  have hN : ∀ f d, ¬ d = c → up (oOut N c a m) 90 0 c v f 0 d = N f 0 d := by
    intro f d hd
    simp only [up]
    rw [if_neg (fun z => hd z.2.2), oOut_k hd]
  refine ⟨⟨fun u hu => ⟨?_, fun d hd => ?_⟩, fun u w d hu hw h1 h2 => a2 u w d hu hw (hmem u d h1) (hmem w d h2)⟩, fun d hd => ?_⟩
  · by_cases hut : u = t
    · subst hut
      rw [setL_s]
      exact hn.sublist hsub
    · have := (a1 u hu).1
      rw [setL_n hut] at this ⊢
      exact this
  · rw [hN _ d (hne u d hu hd), hN _ d (hne u d hu hd)]
    exact (a1 u hu).2 d (hmem u d hd)
  · by_cases hdc : d = c
    · subst hdc
      have hb := b d hd
      rw [up_f (show ¬ 88 = 90 by decide), up_f (show ¬ 89 = 90 by decide), up_s, oOut_88, oOut_89]
      omega
    · rw [hN _ d hdc, hN _ d hdc, hN _ d hdc]
      exact b d hd
theorem V_out {D N : Sg} {l : Ls} {T C t c : Nat} {a m : Int} {p r : List Nat} (ht : t < T) (ha : 0 ≤ a ∧ a < 10) (hm : 0 ≤ m ∧ m < 2000) (h : V D N (setL l t (p ++ c :: r)) T C) : V D (oOut N c a m) (setL l t (p ++ r)) T C := by
  refine V_ext (V_out2 ht ha hm (Or.inl rfl) h) (fun d => ?_) (fun d => ?_) (fun d => ?_)
  · rw [up_f (by decide)]
  · rw [up_f (by decide)]
  · simp only [up]
    split
    · rename_i hz
      rw [oOut_f (by decide) (by decide), hz.2.2]
    · rfl
theorem V_come {D N : Sg} {l : Ls} {T C t c : Nat} {x : List Nat} (ht : t < T) (hc : c < C) (h1 : ¬ N 88 0 c = -1) (h2 : D 68 0 c = 0) (h3 : N 90 0 c < D 69 0 c) (h : V D N (setL l t x) T C) : V D (up N 88 0 c (-1)) (setL l t (x ++ [c])) T C := by
  obtain ⟨⟨a1, a2⟩, b⟩ := h
  have hno : ∀ u, u < T → c ∉ setL l t x u := fun u hu hz => h1 ((a1 u hu).2 c hz).2.1
  have hN : ∀ f d, ¬ d = c → up N 88 0 c (-1) f 0 d = N f 0 d := by
    intro f d hd
    simp only [up]
    rw [if_neg (fun z => hd z.2.2)]
  have hmem : ∀ u d, d ∈ setL l t (x ++ [c]) u → d ∈ setL l t x u ∨ (d = c ∧ u = t) := by
    intro u d hd
    by_cases hu : u = t
    · subst hu
      rw [setL_s] at hd ⊢
      rcases List.mem_append.mp hd with hd | hd
      · exact Or.inl hd
      · exact Or.inr ⟨by simpa using hd, rfl⟩
    · rw [setL_n hu] at hd ⊢
      exact Or.inl hd
  refine ⟨⟨fun u hu => ⟨?_, fun d hd => ?_⟩, fun u w d hu hw k1 k2 => ?_⟩, fun d hd => ?_⟩
  · by_cases hut : u = t
    · subst hut
      have hz := (a1 u hu).1
      have hz2 := hno u hu
      rw [setL_s] at hz hz2 ⊢
      rw [List.nodup_append]
      refine ⟨hz, by simp, fun a ha b hb hab => ?_⟩
      subst hab
      rw [List.mem_singleton] at hb
      subst hb
      exact hz2 ha
    · have := (a1 u hu).1
      rw [setL_n hut] at this ⊢
      exact this
  · rcases hmem u d hd with hd | ⟨rfl, rfl⟩
    · have hdc : ¬ d = c := fun z => hno u hu (z ▸ hd)
      rw [hN _ d hdc, hN _ d hdc]
      exact (a1 u hu).2 d hd
    · rw [up_s, up_f (show ¬ 90 = 88 by decide)]
      exact ⟨hc, rfl, h2, h3⟩
  · rcases hmem u d k1 with k1 | ⟨hd1, hu1⟩
    · rcases hmem w d k2 with k2 | ⟨hd2, hw2⟩
      · exact a2 u w d hu hw k1 k2
      · exact absurd (hd2 ▸ k1) (hno u hu)
    · rcases hmem w d k2 with k2 | ⟨hd2, hw2⟩
      · exact absurd (hd1 ▸ k2) (hno w hw)
      · rw [hu1, hw2]
  · by_cases hdc : d = c
    · subst hdc
      have hb := b d hd
      rw [up_s, up_f (show ¬ 89 = 88 by decide), up_f (show ¬ 90 = 88 by decide)]
      omega
    · rw [hN _ d hdc, hN _ d hdc, hN _ d hdc]
      exact b d hd
theorem app_cons {p r : List Nat} {c : Nat} : p ++ c :: r = (p ++ [c]) ++ r := by simp
theorem V_arL {D : Sg} {here m : Int} {last : Bool} {l : Ls} {T C t : Nat} (ht : t < T) (ha : 0 ≤ here ∧ here < 10) (hm : 0 ≤ m ∧ m < 2000) : ∀ (r p : List Nat) (N : Sg), V D N (setL l t (p ++ r)) T C → V D (arL D here m last r N).1 (setL l t (p ++ (arL D here m last r N).2)) T C
  | [], _, _, h => h
  | c :: r, p, N, h => by
    unfold arL
    split
    · exact V_arL ht ha hm r p _ (V_out2 ht ha hm (by split; exact Or.inr rfl; exact Or.inl (Int.add_zero _)) h)
    · rw [app_cons] at h ⊢
      exact V_arL ht ha hm r (p ++ [c]) _ h
theorem V_drL {D : Sg} {own : Nat} {here m : Int} {l : Ls} {T C t : Nat} (ht : t < T) (ha : 0 ≤ here ∧ here < 10) (hm : 0 ≤ m ∧ m < 2000) : ∀ (r p : List Nat) (N : Sg), V D N (setL l t (p ++ r)) T C → V D (drL D own here m r N).1 (setL l t (p ++ (drL D own here m r N).2)) T C
  | [], _, _, h => h
  | c :: r, p, N, h => by
    unfold drL
    split
    · rw [app_cons] at h ⊢
      exact V_drL ht ha hm r (p ++ [c]) _ h
    · exact V_drL ht ha hm r p _ (V_out ht ha hm h)
theorem V_coL {D : Sg} {own : Nat} {here m : Int} {l : Ls} {T C t : Nat} (ht : t < T) (ha : 0 ≤ here ∧ here < 10) : ∀ (c : Nat) (s : Sg × List Nat), c ≤ C → V D s.1 (setL l t s.2) T C → V D (coL D t own here m c s).1 (setL l t (coL D t own here m c s).2) T C
  | 0, _, _, h => h
  | c + 1, s, hc, h => by
    have ih := V_coL (own := own) (m := m) ht ha c s (by omega) h
    unfold coL
    split
    · rename_i hz
      exact V_come ht hc (by omega) hz.1.1 hz.1.2 ih
    · exact ih
theorem take_last {x : List Nat} {z : Nat} (h : x.length = z + 1) : x = x.take z ++ [x.getD z 0] := by
  have h1 : z < x.length := by omega
  rw [List.getD_eq_getElem?_getD, List.getElem?_eq_getElem h1, Option.getD_some, List.take_append_getElem h1, List.take_of_length_le (by omega)]
theorem V_heL {D : Sg} {here m : Int} {l : Ls} {T C t : Nat} (ht : t < T) (ha : 0 ≤ here ∧ here < 10) (hm : 0 ≤ m ∧ m < 2000) : ∀ (z : Nat) (s : Sg × List Nat), s.2.length = z → V D s.1 (setL l t s.2) T C → V D (heL D t here m z s).1 (setL l t (heL D t here m z s).2) T C
  | 0, _, _, h => h
  | z + 1, s, hz, h => by
    unfold heL
    split
    · refine V_heL ht ha hm z _ (by rw [List.length_take]; omega) ?_
      have e := take_last hz
      rw [e] at h
      have := V_out ht ha hm h
      rw [List.append_nil] at this
      exact this
    · exact h
/-! ===== no coach is ready that was not ===== -/
abbrev rdy (N : Sg) (c : Nat) (a m : Int) : Prop := N 88 0 c = a ∧ N 89 0 c ≤ m
theorem rdy_out {N : Sg} {c d : Nat} {a b m : Int} (h : rdy (oOut N c b m) d a m) : rdy N d a m := by
  by_cases hd : d = c
  · subst hd
    have h2 := h.2
    rw [oOut_89] at h2
    omega
  · unfold rdy at h
    rw [oOut_k hd, oOut_k hd] at h
    exact h
theorem rdy_drL {D : Sg} {own : Nat} {here a m : Int} {d : Nat} : ∀ (r : List Nat) (N : Sg), rdy (drL D own here m r N).1 d a m → rdy N d a m
  | [], _, h => h
  | c :: r, N, h => by
    unfold drL at h
    split at h
    · exact rdy_drL r N h
    · exact rdy_out (rdy_drL r _ h)
theorem rdy_coL {D : Sg} {t own : Nat} {here a m : Int} {d : Nat} (ha : 0 ≤ a) : ∀ (c : Nat) (s : Sg × List Nat), rdy (coL D t own here m c s).1 d a m → rdy s.1 d a m
  | 0, _, h => h
  | c + 1, s, h => by
    unfold coL at h
    split at h
    · have h' : rdy (up (coL D t own here m c s).1 88 0 c (-1)) d a m := h
      refine rdy_coL (D := D) (t := t) (own := own) (here := here) ha c s ?_
      by_cases hd : d = c
      · subst hd
        have h1 := h'.1
        rw [up_s] at h1
        omega
      · unfold rdy at h'
        rw [up_k hd, up_f (by decide)] at h'
        exact h'
    · exact rdy_coL ha c s h
theorem rdy_heL {D : Sg} {t : Nat} {here a m : Int} {d : Nat} : ∀ (z : Nat) (s : Sg × List Nat), rdy (heL D t here m z s).1 d a m → rdy s.1 d a m
  | 0, _, h => h
  | z + 1, s, h => by
    unfold heL at h
    split at h
    · exact rdy_out (rdy_heL z _ h)
    · exact h
