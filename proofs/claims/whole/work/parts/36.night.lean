/-! ===== a night, apart from class and model: the plan D, numbers N, the coaches with each train ===== -/
abbrev Ls : Type := Nat → List Nat
abbrev St : Type := Sg × Ls
def setL (l : Ls) (t : Nat) (x : List Nat) : Ls := fun u => if u = t then x else l u
/-- the families of the plan that a night reads -/
def plF (f : Nat) : Bool := (Nat.ble 52 f && Nat.ble f 62) || (Nat.ble 64 f && Nat.ble f 71) || Nat.beq f 2004 || Nat.beq f 2014
abbrev usd (P : Sg) (k : Nat) : Prop := ((k / 6 : Nat) : Int) < P 2004 0 0 ∧ ((k % 6 : Nat) : Int) < P 54 0 (k / 6)
def nrm (P : Sg) : Sg := fun f i k => if f = 50 ∨ f = 51 then (if i = 0 ∧ usd P k then P f 0 (P 55 0 k).toNat else 0) else if plF f = true then P f i k else 0
/-- where a part begins -/
def begP (D : Sg) (c p : Nat) : Int := if p = 0 then D 61 0 c else D 71 0 (3 * c + p - 1)
def stA (D : Sg) (t : Nat) (a : Int) : Int := stopF D t a (D 54 0 t).toNat
def oOut (N : Sg) (c : Nat) (a m : Int) : Sg := up (up N 88 0 c a) 89 0 c (m + 10)
abbrev thr (D N : Sg) (here : Int) (c : Nat) : Prop := D 71 0 (3 * c + (N 90 0 c).toNat) = here
def arL (D : Sg) (here m : Int) (last : Bool) : List Nat → Sg → Sg × List Nat
  | [], N => (N, [])
  | c :: l, N => if last = true ∨ thr D N here c then arL D here m last l (up (oOut N c here m) 90 0 c (N 90 0 c + if thr D N here c then 1 else 0))
    else ((arL D here m last l N).1, c :: (arL D here m last l N).2)
def arr (D : Sg) (s : St) (t : Nat) (m : Int) : St :=
  let k := (s.1 81 0 t).toNat + 1
  let r := arL D (D 55 0 (6 * t + k)) m (decide ((k : Int) = D 54 0 t - 1)) (s.2 t) (up (up s.1 82 0 t 0) 81 0 t k)
  (r.1, setL s.2 t r.2)
abbrev alw (D : Sg) (own c : Nat) : Prop := m_and (m_shr (D 66 0 c) (D 50 0 (own + 1))) 1 = 1 ∧ (D 51 0 own = D 51 0 (own + 1) ∨ ¬ D 67 0 c = 0)
def drL (D : Sg) (own : Nat) (here m : Int) : List Nat → Sg → Sg × List Nat
  | [], N => (N, [])
  | c :: l, N => if alw D own c then ((drL D own here m l N).1, c :: (drL D own here m l N).2) else drL D own here m l (oOut N c here m)
abbrev tks (D N : Sg) (t : Nat) (here : Int) (c : Nat) : Prop :=
  N 81 0 t < stA D t (D 71 0 (3 * c + (N 90 0 c).toNat)) ∧ (D 70 0 (3 * c + (N 90 0 c).toNat) = t ∨ stA D (D 70 0 (3 * c + (N 90 0 c).toNat)).toNat here = -1 ∨
    ¬ N 80 0 (6 * (D 70 0 (3 * c + (N 90 0 c).toNat)).toNat + (stA D (D 70 0 (3 * c + (N 90 0 c).toNat)).toNat here).toNat) = -1)
abbrev cms (D N : Sg) (t own : Nat) (here m : Int) (c : Nat) : Prop := (D 68 0 c = 0 ∧ N 90 0 c < D 69 0 c) ∧ (N 88 0 c = here ∧ N 89 0 c ≤ m) ∧ alw D own c ∧ tks D N t here c
def coL (D : Sg) (t own : Nat) (here m : Int) : Nat → Sg × List Nat → Sg × List Nat
  | 0, s => s
  | c + 1, s => if cms D (coL D t own here m c s).1 t own here m c then (up (coL D t own here m c s).1 88 0 c (-1), (coL D t own here m c s).2 ++ [c]) else coL D t own here m c s
def wsum (D : Sg) (W : Nat) (l : List Nat) : Int := (l.map (fun c => D W 0 c)).sum
abbrev hvy (D : Sg) (t : Nat) (l : List Nat) : Prop := D 52 0 t < wsum D 64 l ∨ 100 * (wsum D 65 l + 60) < 65 * (wsum D 64 l + 80)
def heL (D : Sg) (t : Nat) (here m : Int) : Nat → Sg × List Nat → Sg × List Nat
  | 0, s => s
  | z + 1, s => if hvy D t s.2 then heL D t here m z (oOut s.1 (s.2.getD z 0) here m, s.2.take z) else s
def seS (D : Sg) (own q j c : Nat) (N : Sg) : Sg :=
  up (up (up N 87 0 (10 * own + j) c) 91 0 c (m_add (N 91 0 c) (if q ≤ j then 1 else 0))) 93 0 (6 * D 62 0 c + D 50 0 (own + 1)).toNat
    (m_add (N 93 0 (6 * D 62 0 c + D 50 0 (own + 1)).toNat) (if D 62 0 c = D 50 0 (own + 1) then 0 else 4 * D 58 0 (own + 1)))
def seL (D : Sg) (own q : Nat) : List Nat → Nat → Sg → Sg
  | [], _, N => N
  | c :: l, j, N => seL D own q l (j + 1) (seS D own q j c N)
def de1 (D : Sg) (s : St) (t : Nat) (m : Int) : Sg × List Nat := drL D (6 * t + (s.1 81 0 t).toNat) (D 55 0 (6 * t + (s.1 81 0 t).toNat)) m (s.2 t) s.1
def de2 (D : Sg) (s : St) (t : Nat) (m : Int) : Sg × List Nat := coL D t (6 * t + (s.1 81 0 t).toNat) (D 55 0 (6 * t + (s.1 81 0 t).toNat)) m (D 2014 0 0).toNat (de1 D s t m)
def de3 (D : Sg) (s : St) (t : Nat) (m : Int) : Sg × List Nat := heL D t (D 55 0 (6 * t + (s.1 81 0 t).toNat)) m (de2 D s t m).2.length (de2 D s t m)
def deN (D : Sg) (t own q : Nat) (m : Int) (r : Sg × List Nat) : Sg :=
  up (up (seL D own q r.2 0 (up (up (up r.1 80 0 own m) 86 0 own (wsum D 64 r.2 + 80)) 85 0 own (wsum D 65 r.2 + 60))) 82 0 t 1) 79 0 (own + 1)
    (m + D 57 0 (own + 1) + D 60 0 (own + 1) + if D 51 0 own = D 51 0 (own + 1) then 0 else 15)
def dep (D : Sg) (s : St) (t : Nat) (m : Int) : St := (deN D t (6 * t + (s.1 81 0 t).toNat) (de1 D s t m).2.length m (de3 D s t m), setL s.2 t (de3 D s t m).2)
/-- a coach that a train waits for -/
def misA (D N : Sg) (t : Nat) (here m : Int) (c : Nat) : Prop := D 68 0 c = 0 ∧ ∃ p : Nat, N 90 0 c ≤ p ∧ (p : Int) < D 69 0 c ∧ D 70 0 (3 * c + p) = t ∧ begP D c p = here ∧ (¬ (p : Int) = N 90 0 c ∨ ¬ (N 88 0 c = here ∧ N 89 0 c ≤ m))
/-- from when on it may leave -/
def rpe (D N : Sg) (t : Nat) : Int := if N 82 0 t = 0 ∧ N 81 0 t + 1 < D 54 0 t then
    (if N 81 0 t = 0 then D 56 0 (6 * t) else if D 56 0 (6 * t + (N 81 0 t).toNat) < N 79 0 (6 * t + (N 81 0 t).toNat) + D 59 0 (6 * t + (N 81 0 t).toNat) then N 79 0 (6 * t + (N 81 0 t).toNat) + D 59 0 (6 * t + (N 81 0 t).toNat) else D 56 0 (6 * t + (N 81 0 t).toNat))
  else 1000000
def pnd (D N : Sg) (t : Nat) : Int := D 56 0 (6 * t + (N 81 0 t).toNat) + D 53 0 t
def lev (D N : Sg) (t : Nat) (m : Int) : Prop := rpe D N t ≤ m ∧ (pnd D N t ≤ m ∨ ∀ c : Nat, (c : Int) < D 2014 0 0 → ¬ misA D N t (D 55 0 (6 * t + (N 81 0 t).toNat)) m c)
def due (N : Sg) (t : Nat) : Int := if N 82 0 t = 0 then 1000000 else N 79 0 (6 * t + (N 81 0 t).toNat + 1)
def arA (D : Sg) (m : Int) : Nat → St → St
  | 0, s => s
  | t + 1, s => if due (arA D m t s).1 t = m then arr D (arA D m t s) t m else arA D m t s
noncomputable def deA (D : Sg) (m : Int) : Nat → St → St
  | 0, s => s
  | t + 1, s => @ite _ (lev D (deA D m t s).1 t m) (Classical.propDecidable _) (dep D (deA D m t s) t m) (deA D m t s)
noncomputable def mnA (D : Sg) (m : Int) (s : St) : St := deA D m (D 2004 0 0).toNat (arA D m (D 2004 0 0).toNat s)
def begN (D : Sg) : Sg := fun f _ k => if f = 79 then (if k % 6 = 0 then 0 else -1) else if f = 80 ∨ f = 87 then -1 else if f = 88 then D 61 0 k else 0
def begA (D : Sg) : St := (begN D, fun _ => [])
noncomputable def ruA (D : Sg) : Nat → St
  | 0 => begA D
  | m + 1 => mnA D m (ruA D m)
noncomputable def recA (D : Sg) : St := ruA D 2000
/-! ===== what the plan keeps to ===== -/
def WP (D : Sg) (T C : Nat) : Prop := D 2004 0 0 = T ∧ D 2014 0 0 = C ∧ T ≤ 6 ∧ C ≤ 10 ∧
  (∀ t, t < 6 → 0 ≤ D 54 0 t ∧ D 54 0 t ≤ 6 ∧ 0 ≤ D 52 0 t ∧ D 52 0 t ≤ 1000 ∧ 0 ≤ D 53 0 t ∧ D 53 0 t ≤ 180 ∧ (t < T → 1 ≤ D 54 0 t)) ∧
  (∀ k, k < 36 → 0 ≤ D 55 0 k ∧ D 55 0 k < 10 ∧ 0 ≤ D 56 0 k ∧ D 56 0 k ≤ 4000 ∧ 0 ≤ D 57 0 k ∧ D 57 0 k ≤ 300 ∧ 0 ≤ D 58 0 k ∧ D 58 0 k ≤ 500 ∧ 0 ≤ D 59 0 k ∧ D 59 0 k ≤ 60 ∧ 0 ≤ D 60 0 k ∧ D 60 0 k ≤ 300 ∧ 0 ≤ D 50 0 k ∧ D 50 0 k < 6 ∧ 0 ≤ D 51 0 k ∧ D 51 0 k ≤ 1) ∧
  (∀ c, c < 10 → 0 ≤ D 61 0 c ∧ D 61 0 c < 10 ∧ 0 ≤ D 62 0 c ∧ D 62 0 c < 6 ∧ 0 ≤ D 64 0 c ∧ D 64 0 c ≤ 80 ∧ 0 ≤ D 65 0 c ∧ D 65 0 c ≤ 80 ∧ 0 ≤ D 66 0 c ∧ D 66 0 c ≤ 63 ∧ 0 ≤ D 67 0 c ∧ D 67 0 c ≤ 1 ∧ 0 ≤ D 68 0 c ∧ D 68 0 c ≤ 1 ∧ 0 ≤ D 69 0 c ∧ D 69 0 c ≤ 3) ∧
  (∀ c p, c < 10 → p < 3 → 0 ≤ D 70 0 (3 * c + p) ∧ D 70 0 (3 * c + p) < 6 ∧ 0 ≤ D 71 0 (3 * c + p) ∧ D 71 0 (3 * c + p) < 10) ∧
  (∀ c p : Nat, c < C → (p : Int) < D 69 0 c → D 70 0 (3 * c + p) < T) ∧
  (∀ t k : Nat, t < T → 0 < k → (k : Int) < D 54 0 t → 1 ≤ D 57 0 (6 * t + k))
/-! ===== what a night keeps to ===== -/
def WT (D N : Sg) (T : Nat) : Prop := ∀ t, t < T → 0 ≤ N 81 0 t ∧ N 81 0 t + 1 ≤ D 54 0 t ∧ (N 82 0 t = 0 ∨ (N 82 0 t = 1 ∧ N 81 0 t + 2 ≤ D 54 0 t))
def WL1 (D N : Sg) (C : Nat) (x : List Nat) : Prop := x.Nodup ∧ ∀ c, c ∈ x → c < C ∧ N 88 0 c = -1 ∧ D 68 0 c = 0 ∧ N 90 0 c < D 69 0 c
def WL (D N : Sg) (l : Ls) (T C : Nat) : Prop := (∀ t, t < T → WL1 D N C (l t)) ∧ ∀ t u c, t < T → u < T → c ∈ l t → c ∈ l u → t = u
def WC (D N : Sg) (C : Nat) : Prop := ∀ c, c < C → 0 ≤ N 90 0 c ∧ N 90 0 c ≤ D 69 0 c ∧ (D 68 0 c = 0 ∨ N 90 0 c = 0) ∧ -1 ≤ N 88 0 c ∧ N 88 0 c < 10 ∧ 0 ≤ N 89 0 c ∧ N 89 0 c ≤ 10000
def WO (N : Sg) : Prop := (∀ c, c < 10 → m_in (N 91 0 c)) ∧ ∀ k, k < 36 → m_in (N 93 0 k)
def WA (N : Sg) (T : Nat) : Prop := ∀ t k : Nat, t < T → k < 6 → ((k : Int) ≤ N 81 0 t → 0 ≤ N 79 0 (6 * t + k) ∧ N 79 0 (6 * t + k) < 2000) ∧ (N 81 0 t < k → (N 82 0 t = 1 ∧ (k : Int) = N 81 0 t + 1 ∧ 0 ≤ N 79 0 (6 * t + k) ∧ N 79 0 (6 * t + k) < 5000) ∨ N 79 0 (6 * t + k) = -1)
def WD (N : Sg) : Prop := ∀ k, k < 36 → N 80 0 k = -1 ∨ (0 ≤ N 80 0 k ∧ N 80 0 k < 2000 ∧ 60 ≤ N 85 0 k ∧ N 85 0 k ≤ 900 ∧ 80 ≤ N 86 0 k ∧ N 86 0 k ≤ 900)
def WN (D : Sg) (T C : Nat) (s : St) : Prop := WT D s.1 T ∧ WL D s.1 s.2 T C ∧ WC D s.1 C ∧ WO s.1 ∧ WA s.1 T ∧ WD s.1
/-- who is under way arrives in the minute m or behind it -/
def Wm (N : Sg) (T : Nat) (m : Int) : Prop := ∀ t, t < T → m ≤ due N t
