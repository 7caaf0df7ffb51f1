/-! ===== the heap behind the constructors, as a function of its ints: S family index place ===== -/
abbrev Sg : Type := Nat → Nat → Nat → Int
def kT : List (Nat × Nat) := [(1900, 0), (1400, 0), (902, 0), (903, 0), (904, 0), (1600, 0), (1600, 1), (1600, 2), (1600, 3), (1600, 4), (1600, 5), (1600, 6), (1600, 7), (1600, 8), (1600, 9), (1700, 0), (10, 0), (11, 0), (12, 0), (13, 0), (14, 0), (15, 0), (16, 0), (1700, 1), (10, 1), (11, 1), (12, 1), (13, 1), (14, 1), (15, 1), (16, 1), (1700, 2), (10, 2), (11, 2), (12, 2), (13, 2), (14, 2), (15, 2), (16, 2), (1700, 3), (10, 3), (11, 3), (12, 3), (13, 3), (14, 3), (15, 3), (16, 3), (1700, 4), (10, 4), (11, 4), (12, 4), (13, 4), (14, 4), (15, 4), (16, 4), (1700, 5), (10, 5), (11, 5), (12, 5), (13, 5), (14, 5), (15, 5), (16, 5), (1100, 0), (20, 0), (21, 0), (22, 0), (1100, 1), (20, 1), (21, 1), (22, 1), (1100, 2), (20, 2), (21, 2), (22, 2), (1100, 3), (20, 3), (21, 3), (22, 3), (1100, 4), (20, 4), (21, 4), (22, 4), (1100, 5), (20, 5), (21, 5), (22, 5), (1100, 6), (20, 6), (21, 6), (22, 6), (1100, 7), (20, 7), (21, 7), (22, 7), (1100, 8), (20, 8), (21, 8), (22, 8), (1100, 9), (20, 9), (21, 9), (22, 9), (1200, 0), (905, 0), (906, 0), (30, 0), (1500, 0), (31, 0), (32, 0), (33, 0), (34, 0), (35, 0), (1500, 1), (31, 1), (32, 1), (33, 1), (34, 1), (35, 1), (1500, 2), (31, 2), (32, 2), (33, 2), (34, 2), (35, 2), (1500, 3), (31, 3), (32, 3), (33, 3), (34, 3), (35, 3), (1500, 4), (31, 4), (32, 4), (33, 4), (34, 4), (35, 4), (1500, 5), (31, 5), (32, 5), (33, 5), (34, 5), (35, 5), (1800, 0), (1800, 1), (1800, 2), (1800, 3), (1800, 4), (1800, 5), (1800, 6), (1800, 7), (1800, 8), (1800, 9), (1200, 1), (905, 1), (906, 1), (30, 1), (1500, 6), (31, 6), (32, 6), (33, 6), (34, 6), (35, 6), (1500, 7), (31, 7), (32, 7), (33, 7), (34, 7), (35, 7), (1500, 8), (31, 8), (32, 8), (33, 8), (34, 8), (35, 8), (1500, 9), (31, 9), (32, 9), (33, 9), (34, 9), (35, 9), (1500, 10), (31, 10), (32, 10), (33, 10), (34, 10), (35, 10), (1500, 11), (31, 11), (32, 11), (33, 11), (34, 11), (35, 11), (1800, 10), (1800, 11), (1800, 12), (1800, 13), (1800, 14), (1800, 15), (1800, 16), (1800, 17), (1800, 18), (1800, 19), (1200, 2), (905, 2), (906, 2), (30, 2), (1500, 12), (31, 12), (32, 12), (33, 12), (34, 12), (35, 12), (1500, 13), (31, 13), (32, 13), (33, 13), (34, 13), (35, 13), (1500, 14), (31, 14), (32, 14), (33, 14), (34, 14), (35, 14), (1500, 15), (31, 15), (32, 15), (33, 15), (34, 15), (35, 15), (1500, 16), (31, 16), (32, 16), (33, 16), (34, 16), (35, 16), (1500, 17), (31, 17), (32, 17), (33, 17), (34, 17), (35, 17), (1800, 20), (1800, 21), (1800, 22), (1800, 23), (1800, 24), (1800, 25), (1800, 26), (1800, 27), (1800, 28), (1800, 29), (1000, 0), (907, 0), (40, 0), (1300, 0), (1300, 1), (1300, 2), (1300, 3), (1300, 4), (1300, 5), (1300, 6), (1300, 7), (1300, 8), (1300, 9), (1300, 10), (1300, 11), (1300, 12), (1300, 13), (1300, 14), (1300, 15), (1300, 16), (1300, 17), (1300, 18), (1300, 19), (1300, 20), (1300, 21), (1300, 22), (1300, 23), (1300, 24), (1300, 25), (1300, 26), (1300, 27), (1300, 28), (1300, 29), (1300, 30), (1300, 31), (1300, 32), (1300, 33), (1300, 34), (1300, 35), (1300, 36), (1300, 37), (1300, 38), (1300, 39), (2000, 0), (50, 0), (51, 0), (52, 0), (53, 0), (54, 0), (55, 0), (56, 0), (57, 0), (58, 0), (59, 0), (60, 0), (61, 0), (62, 0), (63, 0), (64, 0), (65, 0), (66, 0), (67, 0), (68, 0), (69, 0), (70, 0), (71, 0), (72, 0), (73, 0), (74, 0), (75, 0), (76, 0), (77, 0), (78, 0), (79, 0), (80, 0), (81, 0), (82, 0), (83, 0), (84, 0), (85, 0), (86, 0), (87, 0), (88, 0), (89, 0), (90, 0), (91, 0), (92, 0), (93, 0), (98, 0), (99, 0)]
def hq (q : MV) (a : Int) : MV := match q with
  | .inl _ => vI a
  | .inr (.inr (.inl _)) => vF (UInt32.ofNat a.toNat)
  | .inr (.inr (.inr (.inl _))) => vL (Int64.ofInt a)
  | .inr (.inr (.inr (.inr (.inl _)))) => vD (UInt64.ofNat a.toNat)
  | q => q
def kf (o : Nat) : Nat × Nat := kT.getD o (0, 0)
def sg (S : Sg) (o t k : Nat) : Int := if t < 20 then S ((kf o).1 + k) (kf o).2 0 else S (kf o).1 (kf o).2 k
def mk (S : Sg) (e : Nat) : MHp := (h0.mapIdx (fun o c => (c.1, c.2.mapIdx (fun k q => hq q (sg S o c.1 k)))), 343 + e, 4862 + 6 * e)
def up (S : Sg) (F I K : Nat) (a : Int) : Sg := fun f i k => if f = F ∧ i = I ∧ k = K then a else S f i k
abbrev hz : MHp := (h0, 0, 0)
theorem mk_get (S : Sg) (e o : Nat) : (mk S e).1[o]? = (h0[o]?).map (fun c => (c.1, c.2.mapIdx (fun k q => hq q (sg S o c.1 k)))) := by
  unfold mk
  rw [List.getElem?_mapIdx]
theorem m_get_mk (S : Sg) (e o ci k : Nat) : m_get (mk S e) o ci k = (m_get hz o ci k).map (fun q => hq q (sg S o ci k)) := by
  unfold m_get
  rw [mk_get]
  show _ = Option.map _ (match h0[o]? with | some c => if c.1 = ci then c.2[k]? else none | none => none)
  cases h0[o]? with
  | none => rfl
  | some c =>
    simp only [Option.map_some]
    by_cases hc : c.1 = ci
    · rw [if_pos hc, if_pos hc, List.getElem?_mapIdx, hc]
    · rw [if_neg hc, if_neg hc]; rfl
theorem m_tag_mk (S : Sg) (e o : Nat) : m_tag (mk S e) o = m_tag hz o := by
  unfold m_tag
  rw [mk_get]
  show _ = (match h0[o]? with | some c => some c.1 | none => none)
  cases h0[o]? with
  | none => rfl
  | some c => rfl
theorem m_len_mk (S : Sg) (e o : Nat) : m_len (mk S e) o = m_len hz o := by
  unfold m_len
  rw [mk_get]
  show _ = (match h0[o]? with | some c => if c.1 = 20 ∨ c.1 = 22 then some c.2.length else none | none => none)
  cases h0[o]? with
  | none => rfl
  | some c => simp only [Option.map_some, List.length_mapIdx]
/-- no two places of the heap have the same name -/
def rT : List (Nat × Nat × Nat) := List.zipWith (fun c f => (f.1, f.1 + (if c.1 < 20 then c.2.length else 1), f.2)) h0 kT
def r1 (a b : Nat × Nat × Nat) : Bool := !(Nat.beq a.2.2 b.2.2) || Nat.ble a.2.1 b.1 || Nat.ble b.2.1 a.1
theorem r1_ok {a b : Nat × Nat × Nat} (h : r1 a b = true) : a.2.2 ≠ b.2.2 ∨ a.2.1 ≤ b.1 ∨ b.2.1 ≤ a.1 := by
  unfold r1 at h
  by_cases e : a.2.2 = b.2.2
  · rw [e, Nat.beq_refl] at h
    simp only [Bool.not_true, Bool.false_or, Bool.or_eq_true] at h
    rcases h with h | h
    · exact Or.inr (Or.inl (Nat.le_of_ble_eq_true h))
    · exact Or.inr (Or.inr (Nat.le_of_ble_eq_true h))
  · exact Or.inl e
def r2 : List (Nat × Nat × Nat) → Bool
  | [] => true
  | a :: l => l.all (r1 a) && r2 l
theorem r2_ok : r2 rT = true := by decide +kernel
theorem r2_pair : ∀ {l : List (Nat × Nat × Nat)}, r2 l = true → ∀ {i j : Nat} {a b : Nat × Nat × Nat}, i < j → l[i]? = some a → l[j]? = some b → r1 a b = true
  | [], _, i, j, a, b, _, h, _ => by simp at h
  | x :: l, hl, i, j, a, b, hij, hi, hj => by
    simp only [r2, Bool.and_eq_true] at hl
    cases j with
    | zero => omega
    | succ j =>
      cases i with
      | zero =>
        simp only [List.getElem?_cons_zero, Option.some.injEq] at hi
        simp only [List.getElem?_cons_succ] at hj
        subst hi
        exact List.all_eq_true.mp hl.1 _ (List.mem_of_getElem? hj)
      | succ i =>
        simp only [List.getElem?_cons_succ] at hi hj
        exact r2_pair hl.2 (by omega) hi hj
theorem kT_len : kT.length = h0.length := by decide +kernel
theorem rT_get {o : Nat} {c : Nat × List MV} (hc : h0[o]? = some c) : rT[o]? = some ((kf o).1, (kf o).1 + (if c.1 < 20 then c.2.length else 1), (kf o).2) := by
  have ho : o < kT.length := by rw [kT_len]; exact (List.getElem?_eq_some_iff.mp hc).1
  unfold rT kf
  rw [List.getElem?_zipWith, hc, List.getElem?_eq_getElem ho, List.getD_eq_getElem?_getD, List.getElem?_eq_getElem ho]
  rfl
theorem sg_up {S : Sg} {o t k : Nat} {c : Nat × List MV} (hc : h0[o]? = some c) (ht : c.1 = t) (hk : k < c.2.length) {F I K : Nat} (hF : F = if t < 20 then (kf o).1 + k else (kf o).1) (hI : I = (kf o).2) (hK : K = if t < 20 then 0 else k) {a : Int}
    {o2 k2 : Nat} {c2 : Nat × List MV} (hc2 : h0[o2]? = some c2) (hk2 : k2 < c2.2.length) : sg (up S F I K a) o2 c2.1 k2 = if o2 = o ∧ k2 = k then a else sg S o2 c2.1 k2 := by
  subst ht hF hI hK
  have hd : o2 ≠ o → ¬((if c2.1 < 20 then (kf o2).1 + k2 else (kf o2).1) = (if c.1 < 20 then (kf o).1 + k else (kf o).1) ∧ (kf o2).2 = (kf o).2) := by
    intro hne ⟨h1, h2⟩
    have hr : r1 ((kf o).1, (kf o).1 + (if c.1 < 20 then c.2.length else 1), (kf o).2) ((kf o2).1, (kf o2).1 + (if c2.1 < 20 then c2.2.length else 1), (kf o2).2) = true ∨ r1 ((kf o2).1, (kf o2).1 + (if c2.1 < 20 then c2.2.length else 1), (kf o2).2) ((kf o).1, (kf o).1 + (if c.1 < 20 then c.2.length else 1), (kf o).2) = true := by
      rcases Nat.lt_or_gt_of_ne hne with h9 | h9
      · exact Or.inr (r2_pair r2_ok h9 (rT_get hc2) (rT_get hc))
      · exact Or.inl (r2_pair r2_ok h9 (rT_get hc) (rT_get hc2))
    have hr := hr.imp r1_ok r1_ok
    simp only at hr
    split at h1 <;> split at h1 <;> rename_i z1 z2 <;> simp only [z1, z2, if_true, if_false] at hr <;> omega
  unfold sg up
  by_cases ho : o2 = o
  · subst ho
    rw [hc] at hc2
    cases hc2
    by_cases ht : c.1 < 20
    · simp only [if_pos ht]
      by_cases hkk : k2 = k
      · subst hkk; simp
      · rw [if_neg (by omega), if_neg (by omega)]
    · simp only [if_neg ht]
      by_cases hkk : k2 = k
      · subst hkk; simp
      · rw [if_neg (by omega), if_neg (by omega)]
  · rw [if_neg (show ¬(o2 = o ∧ k2 = k) from fun z => ho z.1)]
    have hd := hd ho
    by_cases ht : c2.1 < 20
    · simp only [if_pos ht] at hd ⊢
      rw [if_neg (fun z => hd ⟨z.1, z.2.1⟩)]
    · simp only [if_neg ht] at hd ⊢
      rw [if_neg (fun z => hd ⟨z.1, z.2.1⟩)]
theorem m_set_mk {S : Sg} {e o t k : Nat} {q v : MV} {a : Int} (hq0 : m_get hz o t k = some q) (hv : hq q a = v) {F I K : Nat} (hF : F = if t < 20 then (kf o).1 + k else (kf o).1) (hI : I = (kf o).2) (hK : K = if t < 20 then 0 else k) : m_set (mk S e) o k v = mk (up S F I K a) e := by
  obtain ⟨c, hc, ht, hk⟩ : ∃ c, h0[o]? = some c ∧ c.1 = t ∧ c.2[k]? = some q := by
    unfold m_get at hq0
    split at hq0
    · rename_i c hc
      split at hq0
      · rename_i ht; exact ⟨c, hc, ht, hq0⟩
      · cases hq0
    · cases hq0
  have hkl : k < c.2.length := (List.getElem?_eq_some_iff.mp hk).1
  unfold m_set
  refine Prod.ext ?_ rfl
  refine List.ext_getElem? (fun o2 => ?_)
  show ((mk S e).1.modify o _)[o2]? = _
  rw [List.getElem?_modify, mk_get, mk_get]
  cases hc2 : h0[o2]? with
  | none => simp
  | some c2 =>
    simp only [Option.map_some, Option.map_map]
    have hrow : c2.2.mapIdx (fun k2 q => hq q (sg (up S F I K a) o2 c2.1 k2)) = if o = o2 then (c2.2.mapIdx (fun k2 q => hq q (sg S o2 c2.1 k2))).set k v else c2.2.mapIdx (fun k2 q => hq q (sg S o2 c2.1 k2)) := by
      refine List.ext_getElem? (fun k2 => ?_)
      rw [List.getElem?_mapIdx]
      by_cases ho : o = o2
      · subst ho
        rw [hc] at hc2
        cases hc2
        rw [if_pos rfl, List.getElem?_set, List.length_mapIdx, List.getElem?_mapIdx]
        by_cases hkk : k = k2
        · subst hkk
          rw [if_pos rfl, if_pos hkl, hk]
          simp only [Option.map_some]
          rw [sg_up hc ht hkl hF hI hK hc hkl, if_pos ⟨rfl, rfl⟩, hv]
        · rw [if_neg hkk]
          cases h9 : c.2[k2]? with
          | none => rfl
          | some q2 =>
            simp only [Option.map_some]
            rw [sg_up hc ht hkl hF hI hK hc (List.getElem?_eq_some_iff.mp h9).1, if_neg (fun z => hkk z.2.symm)]
      · rw [if_neg ho, List.getElem?_mapIdx]
        cases h9 : c2.2[k2]? with
        | none => rfl
        | some q2 =>
          simp only [Option.map_some]
          rw [sg_up hc ht hkl hF hI hK hc2 (List.getElem?_eq_some_iff.mp h9).1, if_neg (fun z => ho z.1.symm)]
    rw [hrow]
    by_cases ho : o = o2
    · simp [ho]
    · simp [ho]
def st (i : Nat) : Nat := 5 + i
def tr (i : Nat) : Nat := 15 + 8 * i
def co (i : Nat) : Nat := 63 + 4 * i
def nt (n : Nat) : Nat := 103 + 50 * n
def ntR (n : Nat) : Nat := 104 + 50 * n
def ntW (n : Nat) : Nat := 105 + 50 * n
def ntO (n : Nat) : Nat := 106 + 50 * n
def ru (n i : Nat) : Nat := 107 + 50 * n + 6 * i
def wg (n i : Nat) : Nat := 143 + 50 * n + i
def pe (i : Nat) : Nat := 256 + i
def trA0 (i : Nat) : Nat := 16 + 8 * i
def trA1 (i : Nat) : Nat := 17 + 8 * i
def trA2 (i : Nat) : Nat := 18 + 8 * i
def trA3 (i : Nat) : Nat := 19 + 8 * i
def trA4 (i : Nat) : Nat := 20 + 8 * i
def trA5 (i : Nat) : Nat := 21 + 8 * i
def trA6 (i : Nat) : Nat := 22 + 8 * i
def coA0 (i : Nat) : Nat := 64 + 4 * i
def coA1 (i : Nat) : Nat := 65 + 4 * i
def coA2 (i : Nat) : Nat := 66 + 4 * i
def ruA0 (n i : Nat) : Nat := 108 + 50 * n + 6 * i
def ruA1 (n i : Nat) : Nat := 109 + 50 * n + 6 * i
def ruA2 (n i : Nat) : Nat := 110 + 50 * n + 6 * i
def ruA3 (n i : Nat) : Nat := 111 + 50 * n + 6 * i
def ruA4 (n i : Nat) : Nat := 112 + 50 * n + 6 * i
