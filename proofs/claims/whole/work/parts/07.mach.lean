/-! ===== the small machine: values, a heap that is a list of cells, one step, runs; xs the script, L its length and 1 (0: no script) ===== -/
abbrev MHp : Type := List (Nat × List MV) × Nat × Nat
abbrev MCfg : Type := MCode × List MV × List MV × MHp
abbrev MOut : Type := Sum (Option MV) Nat
abbrev MAct : Type := Sum MCfg (Sum ((Nat × List MV) × MCfg × Nat) (MOut × MHp))
def m_in (a : Int) : Prop := -2147483648 ≤ a ∧ a < 2147483648
abbrev m_inD (a : Int) : Bool := decide (-2147483648 ≤ a ∧ a < 2147483648)
def m_add (a b : Int) : Int := (Int32.ofInt a + Int32.ofInt b).toInt
def m_sub (a b : Int) : Int := (Int32.ofInt a - Int32.ofInt b).toInt
def m_mul (a b : Int) : Int := (Int32.ofInt a * Int32.ofInt b).toInt
def m_div (a b : Int) : Int := (Int32.ofInt a / Int32.ofInt b).toInt
def m_rem (a b : Int) : Int := (Int32.ofInt a - Int32.ofInt a / Int32.ofInt b * Int32.ofInt b).toInt
def m_and (a b : Int) : Int := (Int32.ofInt a &&& Int32.ofInt b).toInt
def m_shr (a b : Int) : Int := (Int32.ofInt a >>> (Int32.ofInt b &&& 31)).toInt
def m_holds : Jvm.ClassFile.Cond → Int → Int → Bool
  | .eq, a, b => decide (a = b)
  | .ne, a, b => decide (¬ a = b)
  | .lt, a, b => decide (a < b)
  | .ge, a, b => decide (b ≤ a)
  | .gt, a, b => decide (b < a)
  | .le, a, b => decide (a ≤ b)
def m_cat : MV → Nat
  | .inr (.inr (.inr (.inl _))) => 2
  | .inr (.inr (.inr (.inr (.inl _)))) => 2
  | _ => 1
def m_nn32 (r : UInt32) : Bool := decide (r &&& 0x7fffffff ≤ 0x7f800000)
def m_nn64 (r : UInt64) : Bool := decide (r &&& 0x7fffffffffffffff ≤ 0x7ff0000000000000)
/-- a field of an object of class ci -/
def m_get (h : MHp) (o ci k : Nat) : Option MV := match h.1[o]? with
  | some c => if c.1 = ci then c.2[k]? else none
  | none => none
/-- a place of an array of kind tag -/
def m_age (h : MHp) (o tag : Nat) (i : Int) : Option MV := if 0 ≤ i then m_get h o tag i.toNat else none
def m_len (h : MHp) (o : Nat) : Option Nat := match h.1[o]? with
  | some c => if c.1 = 20 ∨ c.1 = 22 then some c.2.length else none
  | none => none
def m_tag (h : MHp) (o : Nat) : Option Nat := match h.1[o]? with
  | some c => some c.1
  | none => none
def m_set (h : MHp) (o k : Nat) (v : MV) : MHp := (h.1.modify o (fun c => (c.1, c.2.set k v)), h.2)
def m_push (h : MHp) (tag : Nat) (vs : List MV) : MHp := (h.1 ++ [(tag, vs)], h.2.1 + 1, h.2.2 + vs.length)
/-- may the value be stored in a variable of the kind (0 int, 1 boolean, 2 reference)? -/
def m_fit : Nat → MV → Bool
  | 0, .inl _ => true
  | 1, .inl a => decide (a = 0 ∨ a = 1)
  | 2, .inr (.inl _) => true
  | _, _ => false
/-- the classes of which there are arrays -/
def m_oa (c : Nat) : Bool := decide (c = 1 ∨ c = 3 ∨ c = 5 ∨ c = 6 ∨ c = 7 ∨ c = 8)
def m_nx (c : MCode) (ls st : List MV) (h : MHp) : Option MAct := some (.inl (c, ls, st, h))
def m_ld (v : Option MV) (r : MCode) (ls st : List MV) (h : MHp) : Option MAct := match v with
  | some v => m_nx r ls (v :: st) h
  | none => none
def m_iload (k : Nat) (r : MCode) (ls st : List MV) (h : MHp) : Option MAct := match ls[k]? with
  | some (.inl a) => m_nx r ls (vI a :: st) h
  | _ => none
def m_aload (k : Nat) (r : MCode) (ls st : List MV) (h : MHp) : Option MAct := match ls[k]? with
  | some (.inr (.inl (some o))) => m_nx r ls (vR o :: st) h
  | some (.inr (.inr (.inr (.inr (.inr true))))) => m_nx r ls (vS :: st) h
  | _ => none
def m_fload (k : Nat) (r : MCode) (ls st : List MV) (h : MHp) : Option MAct := match ls[k]? with
  | some (.inr (.inr (.inl b))) => m_nx r ls (vF b :: st) h
  | _ => none
def m_istore (k : Nat) (r : MCode) (ls st : List MV) (h : MHp) : Option MAct := match st with
  | .inl a :: st => if k < ls.length then m_nx r (ls.set k (vI a)) st h else none
  | _ => none
def m_astore (k : Nat) (r : MCode) (ls st : List MV) (h : MHp) : Option MAct := match st with
  | .inr (.inl (some o)) :: st => if k < ls.length then m_nx r (ls.set k (vR o)) st h else none
  | _ => none
def m_fstore (k : Nat) (r : MCode) (ls st : List MV) (h : MHp) : Option MAct := match st with
  | .inr (.inr (.inl b)) :: st => if k < ls.length then m_nx r (ls.set k (vF b)) st h else none
  | _ => none
def m_bin (f : Int → Int → Int) (r : MCode) (ls st : List MV) (h : MHp) : Option MAct := match st with
  | .inl b :: .inl a :: st => m_nx r ls (vI (f a b) :: st) h
  | _ => none
def m_dbin (f : Int → Int → Int) (r : MCode) (ls st : List MV) (h : MHp) : Option MAct := match st with
  | .inl b :: .inl a :: st => if b = 0 then none else m_nx r ls (vI (f a b) :: st) h
  | _ => none
def m_iinc (k : Nat) (n : Int) (r : MCode) (ls st : List MV) (h : MHp) : Option MAct := match ls[k]? with
  | some (.inl a) => m_nx r (ls.set k (vI (m_add a n))) st h
  | _ => none
def m_fbin (f : UInt32 → UInt32 → UInt32) (r : MCode) (ls st : List MV) (h : MHp) : Option MAct := match st with
  | .inr (.inr (.inl b)) :: .inr (.inr (.inl a)) :: st => if m_nn32 (f a b) then m_nx r ls (vF (f a b) :: st) h else none
  | _ => none
def m_fcmp (op : CmpOp) (r : MCode) (ls st : List MV) (h : MHp) : Option MAct := match st with
  | .inr (.inr (.inl b)) :: .inr (.inr (.inl a)) :: st => m_nx r ls (vI (Op.cmpValue (FP.fcmp a b) op).toInt :: st) h
  | _ => none
def m_dcmp (op : CmpOp) (r : MCode) (ls st : List MV) (h : MHp) : Option MAct := match st with
  | .inr (.inr (.inr (.inr (.inl b)))) :: .inr (.inr (.inr (.inr (.inl a)))) :: st => m_nx r ls (vI (Op.cmpValue (FP.dcmp a b) op).toInt :: st) h
  | _ => none
def m_lcmp (r : MCode) (ls st : List MV) (h : MHp) : Option MAct := match st with
  | .inr (.inr (.inr (.inl b))) :: .inr (.inr (.inr (.inl a))) :: st => m_nx r ls (vI (lg_cmp a b).toInt :: st) h
  | _ => none
def m_i2l (r : MCode) (ls st : List MV) (h : MHp) : Option MAct := match st with
  | .inl a :: st => m_nx r ls (vL (Int32.ofInt a).toInt64 :: st) h
  | _ => none
def m_i2f (r : MCode) (ls st : List MV) (h : MHp) : Option MAct := match st with
  | .inl a :: st => m_nx r ls (vF (FP.i2f (Int32.ofInt a)) :: st) h
  | _ => none
def m_f2d (r : MCode) (ls st : List MV) (h : MHp) : Option MAct := match st with
  | .inr (.inr (.inl a)) :: st => if m_nn64 (FP.f2d a) then m_nx r ls (vD (FP.f2d a) :: st) h else none
  | _ => none
def m_if (c : Jvm.ClassFile.Cond) (j r : MCode) (ls st : List MV) (h : MHp) : Option MAct := match st with
  | .inl a :: st => if m_holds c a 0 then m_nx j ls st h else m_nx r ls st h
  | _ => none
def m_icmp (c : Jvm.ClassFile.Cond) (j r : MCode) (ls st : List MV) (h : MHp) : Option MAct := match st with
  | .inl b :: .inl a :: st => if m_holds c a b then m_nx j ls st h else m_nx r ls st h
  | _ => none
def m_sw (mi pc : Nat) (d lo hi : Int) (offs : Array Int) (ls st : List MV) (h : MHp) : Option MAct := match st with
  | .inl a :: st => if a < lo ∨ hi < a then m_nx (m_jmp mi pc d) ls st h else match offs[(a - lo).toNat]? with
    | some off => m_nx (m_jmp mi pc off) ls st h
    | none => none
  | _ => none
def m_getf (f : Option (Nat × Nat × Nat × Bool)) (r : MCode) (ls st : List MV) (h : MHp) : Option MAct := match f, st with
  | some (ci, k, _, _), .inr (.inl (some o)) :: st => m_ld (m_get h o ci k) r ls st h
  | _, _ => none
def m_putf (mi : Nat) (f : Option (Nat × Nat × Nat × Bool)) (r : MCode) (ls st : List MV) (h : MHp) : Option MAct := match f, st with
  | some (ci, k, tk, fin), v :: .inr (.inl (some o)) :: st =>
    if m_fit tk v = true ∧ (m_get h o ci k).isSome = true ∧ (fin = true → m_kind mi = 2 ∧ m_own mi = ci) then m_nx r ls st (m_set h o k v) else none
  | _, _ => none
def m_iald (xs : Nat → Int32) (L : Nat) (r : MCode) (ls st : List MV) (h : MHp) : Option MAct := match st with
  | .inl i :: .inr (.inl (some o)) :: st => (match m_age h o 20 i with
    | some (.inl a) => m_nx r ls (vI a :: st) h
    | _ => none)
  | .inl i :: .inr (.inr (.inr (.inr (.inr true)))) :: st => if 0 ≤ i ∧ i + 1 < (L : Int) then m_nx r ls (vI (xs i.toNat).toInt :: st) h else none
  | _ => none
def m_zald (r : MCode) (ls st : List MV) (h : MHp) : Option MAct := match st with
  | .inl i :: .inr (.inl (some o)) :: st => (match m_age h o 21 i with
    | some (.inl a) => m_nx r ls (vI a :: st) h
    | _ => none)
  | _ => none
def m_fald (r : MCode) (ls st : List MV) (h : MHp) : Option MAct := match st with
  | .inl i :: .inr (.inl (some o)) :: st => (match m_age h o 22 i with
    | some (.inr (.inr (.inl a))) => m_nx r ls (vF a :: st) h
    | _ => none)
  | _ => none
def m_lald (r : MCode) (ls st : List MV) (h : MHp) : Option MAct := match st with
  | .inl i :: .inr (.inl (some o)) :: st => (match m_age h o 23 i with
    | some (.inr (.inr (.inr (.inl a)))) => m_nx r ls (vL a :: st) h
    | _ => none)
  | _ => none
def m_dald (r : MCode) (ls st : List MV) (h : MHp) : Option MAct := match st with
  | .inl i :: .inr (.inl (some o)) :: st => (match m_age h o 24 i with
    | some (.inr (.inr (.inr (.inr (.inl a))))) => m_nx r ls (vD a :: st) h
    | _ => none)
  | _ => none
def m_aald (r : MCode) (ls st : List MV) (h : MHp) : Option MAct := match st with
  | .inl i :: .inr (.inl (some o)) :: st => (match m_tag h o with
    | some t => if 30 ≤ t ∧ m_oa (t - 30) = true then (match m_age h o t i with
      | some (.inr (.inl (some q))) => m_nx r ls (vR q :: st) h
      | _ => none) else none
    | none => none)
  | _ => none
def m_iast (r : MCode) (ls st : List MV) (h : MHp) : Option MAct := match st with
  | .inl a :: .inl i :: .inr (.inl (some o)) :: st => if (m_age h o 20 i).isSome = true then m_nx r ls st (m_set h o i.toNat (vI a)) else none
  | _ => none
def m_zast (r : MCode) (ls st : List MV) (h : MHp) : Option MAct := match st with
  | .inl a :: .inl i :: .inr (.inl (some o)) :: st => if (a = 0 ∨ a = 1) ∧ (m_age h o 21 i).isSome = true then m_nx r ls st (m_set h o i.toNat (vI a)) else none
  | _ => none
def m_fast (r : MCode) (ls st : List MV) (h : MHp) : Option MAct := match st with
  | .inr (.inr (.inl a)) :: .inl i :: .inr (.inl (some o)) :: st => if (m_age h o 22 i).isSome = true then m_nx r ls st (m_set h o i.toNat (vF a)) else none
  | _ => none
def m_last (r : MCode) (ls st : List MV) (h : MHp) : Option MAct := match st with
  | .inr (.inr (.inr (.inl a))) :: .inl i :: .inr (.inl (some o)) :: st => if (m_age h o 23 i).isSome = true then m_nx r ls st (m_set h o i.toNat (vL a)) else none
  | _ => none
def m_dast (r : MCode) (ls st : List MV) (h : MHp) : Option MAct := match st with
  | .inr (.inr (.inr (.inr (.inl a)))) :: .inl i :: .inr (.inl (some o)) :: st => if (m_age h o 24 i).isSome = true then m_nx r ls st (m_set h o i.toNat (vD a)) else none
  | _ => none
/-- an object array of kind 30 + c takes an object of class c -/
def m_aast (r : MCode) (ls st : List MV) (h : MHp) : Option MAct := match st with
  | .inr (.inl (some q)) :: .inl i :: .inr (.inl (some o)) :: st => (match m_tag h q with
    | some t => if m_oa t = true ∧ (m_age h o (30 + t) i).isSome = true then m_nx r ls st (m_set h o i.toNat (vR q)) else none
    | none => none)
  | _ => none
def m_alen (L : Nat) (r : MCode) (ls st : List MV) (h : MHp) : Option MAct := match st with
  | .inr (.inl (some o)) :: st => (match m_len h o with
    | some n => if n < 2147483648 then m_nx r ls (vI n :: st) h else none
    | none => none)
  | .inr (.inr (.inr (.inr (.inr true)))) :: st => if 0 < L ∧ L ≤ 2147483648 then m_nx r ls (vI ((L : Int) - 1) :: st) h else none
  | _ => none
def m_newarr (tag : Nat) (v : MV) (r : MCode) (ls st : List MV) (h : MHp) : Option MAct := match st with
  | .inl n :: st => if 0 ≤ n ∧ n ≤ 1000 then m_nx r ls (vR h.1.length :: st) (m_push h tag (List.replicate n.toNat v)) else none
  | _ => none
/-- a new object; or, where the class is one of the three exceptions, 'throw new E("..")' -/
def m_new (o : Nat) (k : Option (Nat × Nat)) (r : MCode) (ls st : List MV) (h : MHp) : Option MAct := match k with
  | some (0, ci) => m_nx r ls (vR h.1.length :: st) (m_push h ci (tD.getD ci []))
  | some (1, e) => (match r with
    | (_, .dup) :: (_, .ldc is) :: (_, .invokespecial ic) :: (_, .athrow) :: _ => if cR o ic = some (4, e) ∧ (sR o is).isSome = true ∧ (st.map m_cat).sum ≤ 8 then some (.inr (.inr (.inr e, (h.1, h.2.1 + 1, h.2.2 + 6)))) else none
    | (_, .dup) :: (_, .ldc_w is) :: (_, .invokespecial ic) :: (_, .athrow) :: _ => if cR o ic = some (4, e) ∧ (sR o is).isSome = true ∧ (st.map m_cat).sum ≤ 8 then some (.inr (.inr (.inr e, (h.1, h.2.1 + 1, h.2.2 + 6)))) else none
    | _ => none)
  | _ => none
def m_dup (r : MCode) (ls st : List MV) (h : MHp) : Option MAct := match st with
  | v :: st => if m_cat v = 1 then m_nx r ls (v :: v :: st) h else none
  | _ => none
def m_dup2 (r : MCode) (ls st : List MV) (h : MHp) : Option MAct := match st with
  | v :: w :: st => if m_cat v = 1 ∧ m_cat w = 1 then m_nx r ls (v :: w :: v :: w :: st) h else none
  | _ => none
def m_pop (r : MCode) (ls st : List MV) (h : MHp) : Option MAct := match st with
  | v :: st => if m_cat v = 1 then m_nx r ls st h else none
  | _ => none
/-- a call: the arguments off the stack; the rest of it may be eight words -/
def m_callA (mj pc : Nat) (args : List MV) (r : MCode) (ls st : List MV) (h : MHp) : Option MAct :=
  if (st.map m_cat).sum ≤ 8 ∧ args.all (fun v => decide (m_cat v = 1)) = true ∧ args.length ≤ m_maxL mj then some (.inr (.inl ((mj, args), (r, ls, st, h), pc))) else none
def m_invs (pc : Nat) (k : Option (Nat × Nat)) (r : MCode) (ls st : List MV) (h : MHp) : Option MAct := match k with
  | some (1, mj) => if m_kind mj = 0 ∧ m_narg mj ≤ st.length then m_callA mj pc (st.take (m_narg mj)).reverse r ls (st.drop (m_narg mj)) h else none
  | some (2, _) => (match st with
    | .inl b :: .inl a :: st => if (st.map m_cat).sum ≤ 8 then m_nx r ls (vI (if a < b then b else a) :: st) h else none
    | _ => none)
  | _ => none
def m_invv (pc : Nat) (k : Option (Nat × Nat)) (r : MCode) (ls st : List MV) (h : MHp) : Option MAct := match k with
  | some (1, mj) => (match st.drop (m_narg mj) with
    | .inr (.inl (some b)) :: st' => if m_kind mj = 1 ∧ m_tag h b = some (m_own mj) then m_callA mj pc (vR b :: (st.take (m_narg mj)).reverse) r ls st' h else none
    | _ => none)
  | _ => none
def m_invi (pc : Nat) (k : Option (Nat × Nat)) (r : MCode) (ls st : List MV) (h : MHp) : Option MAct := match k with
  | some (1, mj) => (match st.drop (m_narg mj) with
    | .inr (.inl (some b)) :: st' => if m_kind mj = 2 then m_callA mj pc (vR b :: (st.take (m_narg mj)).reverse) r ls st' h else none
    | _ => none)
  | some (5, mj) => (match st.drop (m_narg mj) with
    | .inr (.inl (some b)) :: st' => if m_kind mj = 2 then m_callA mj pc (vR b :: (st.take (m_narg mj)).reverse) r ls st' h else none
    | _ => none)
  | some (3, _) => (match st with
    | .inr (.inl (some _)) :: st => if (st.map m_cat).sum ≤ 8 then m_nx r ls st h else none
    | _ => none)
  | _ => none
def m_end (o : MOut) (h : MHp) : Option MAct := some (.inr (.inr (o, h)))
def m_iret (t : Option FieldType) (st : List MV) (h : MHp) : Option MAct := match t, st with
  | some .int, [.inl a] => m_end (.inl (some (vI a))) h
  | some .boolean, [.inl a] => if a = 0 ∨ a = 1 then m_end (.inl (some (vI a))) h else none
  | _, _ => none
def m_fret (t : Option FieldType) (st : List MV) (h : MHp) : Option MAct := match t, st with
  | some .float, [.inr (.inr (.inl a))] => m_end (.inl (some (vF a))) h
  | _, _ => none
def m_aret (t : Option FieldType) (st : List MV) (h : MHp) : Option MAct := match t, st with
  | some (.object _), [.inr (.inl (some o))] => m_end (.inl (some (vR o))) h
  | _, _ => none
def m_vret (t : Option FieldType) (st : List MV) (h : MHp) : Option MAct := match t, st with
  | none, [] => m_end (.inl none) h
  | _, _ => none
def m_act (xs : Nat → Int32) (L mi pc : Nat) (i : Instr) (r : MCode) (ls st : List MV) (h : MHp) : Option MAct := match i with
  | .iconst n => if m_inD n then m_nx r ls (vI n :: st) h else none
  | .bipush n => if -128 ≤ n ∧ n < 128 then m_nx r ls (vI n :: st) h else none
  | .sipush n => if -32768 ≤ n ∧ n < 32768 then m_nx r ls (vI n :: st) h else none
  | .lconst k => m_nx r ls (vL (Int64.ofNat k) :: st) h
  | .fconst k => if k = 0 then m_nx r ls (vF 0 :: st) h else none
  | .ldc k => m_ld (lR (m_own mi) k) r ls st h
  | .ldc_w k => m_ld (lR (m_own mi) k) r ls st h
  | .iload_n k => m_iload k r ls st h
  | .iload k => m_iload k r ls st h
  | .aload_n k => m_aload k r ls st h
  | .aload k => m_aload k r ls st h
  | .fload_n k => m_fload k r ls st h
  | .fload k => m_fload k r ls st h
  | .istore_n k => m_istore k r ls st h
  | .istore k => m_istore k r ls st h
  | .astore_n k => m_astore k r ls st h
  | .astore k => m_astore k r ls st h
  | .fstore_n k => m_fstore k r ls st h
  | .fstore k => m_fstore k r ls st h
  | .iinc k n => m_iinc k n r ls st h
  | .iadd => m_bin m_add r ls st h
  | .isub => m_bin m_sub r ls st h
  | .imul => m_bin m_mul r ls st h
  | .iand => m_bin m_and r ls st h
  | .ishr => m_bin m_shr r ls st h
  | .idiv => m_dbin m_div r ls st h
  | .irem => m_dbin m_rem r ls st h
  | .i2l => m_i2l r ls st h
  | .i2f => m_i2f r ls st h
  | .f2d => m_f2d r ls st h
  | .fmul => m_fbin FP.fmul r ls st h
  | .fdiv => m_fbin FP.fdiv r ls st h
  | .fcmp op => m_fcmp op r ls st h
  | .dcmp op => m_dcmp op r ls st h
  | .lcmp => m_lcmp r ls st h
  | .ifCond c off => m_if c (m_jmp mi pc off) r ls st h
  | .if_icmp c off => m_icmp c (m_jmp mi pc off) r ls st h
  | .goto off => m_nx (m_jmp mi pc off) ls st h
  | .tableswitch d lo hi offs => m_sw mi pc d lo hi offs ls st h
  | .getfield k => m_getf (fR (m_own mi) k) r ls st h
  | .putfield k => m_putf mi (fR (m_own mi) k) r ls st h
  | .iaload => m_iald xs L r ls st h
  | .baload => m_zald r ls st h
  | .faload => m_fald r ls st h
  | .laload => m_lald r ls st h
  | .daload => m_dald r ls st h
  | .aaload => m_aald r ls st h
  | .iastore => m_iast r ls st h
  | .bastore => m_zast r ls st h
  | .fastore => m_fast r ls st h
  | .lastore => m_last r ls st h
  | .dastore => m_dast r ls st h
  | .aastore => m_aast r ls st h
  | .arraylength => m_alen L r ls st h
  | .newarray .int => m_newarr 20 (vI 0) r ls st h
  | .newarray .boolean => m_newarr 21 (vI 0) r ls st h
  | .newarray .float => m_newarr 22 (vF 0) r ls st h
  | .newarray .long => m_newarr 23 (vL 0) r ls st h
  | .newarray .double => m_newarr 24 (vD 0) r ls st h
  | .anewarray k => (match kR (m_own mi) k with
    | some (0, ci) => if m_oa ci = true then m_newarr (30 + ci) vN r ls st h else none
    | _ => none)
  | .new k => m_new (m_own mi) (kR (m_own mi) k) r ls st h
  | .dup => m_dup r ls st h
  | .dup2 => m_dup2 r ls st h
  | .pop => m_pop r ls st h
  | .invokestatic k => m_invs pc (cR (m_own mi) k) r ls st h
  | .invokevirtual k => m_invv pc (cR (m_own mi) k) r ls st h
  | .invokespecial k => m_invi pc (cR (m_own mi) k) r ls st h
  | .ireturn => m_iret (m_ret mi) st h
  | .freturn => m_fret (m_ret mi) st h
  | .areturn => m_aret (m_ret mi) st h
  | .return_ => m_vret (m_ret mi) st h
  | _ => none
def m_step (xs : Nat → Int32) (L mi : Nat) (c : MCfg) : Option MAct := match c.1 with
  | (pc, i) :: r => m_act xs L mi pc i r c.2.1 c.2.2.1 c.2.2.2
  | [] => none
def m_entry (mj : Nat) (args : List MV) (h : MHp) : MCfg := (m_code mj, args ++ List.replicate (m_maxL mj - args.length) vU, [], h)
/-- behind a call that threw: the first handler that covers it and names the class; its astore is done with it -/
def m_catch (mi pc e : Nat) (ls : List MV) (h : MHp) : Option MCfg :=
  match (m_hand mi).find? (fun q => decide (q.1 ≤ pc ∧ pc < q.2.1 ∧ q.2.2.2.2 = e)) with
  | some q => (match m_blk mi q.2.2.1 with
    | (_, .astore_n k) :: r => if k.val < ls.length then some (r, ls.set k.val vU, [], h) else none
    | (_, .astore k) :: r => if k < ls.length then some (r, ls.set k vU, [], h) else none
    | _ => none)
  | none => none
def m_back (ih : Nat → MCfg → Option (MOut × MHp)) (mi pc : Nat) (r : MCode) (ls st : List MV) : MOut × MHp → Option (MOut × MHp)
  | (.inl v, h) => ih mi (r, ls, v.toList ++ st, h)
  | (.inr e, h) => if m_hand mi = [] then some (.inr e, h) else match m_catch mi pc e ls h with
    | some c => ih mi c
    | none => none
def m_stepF (xs : Nat → Int32) (L : Nat) (ih : Nat → MCfg → Option (MOut × MHp)) (mi : Nat) (c : MCfg) : Option (MOut × MHp) := match m_step xs L mi c with
  | none => none
  | some (.inl c) => ih mi c
  | some (.inr (.inl (q, c, pc))) => (match ih q.1 (m_entry q.1 q.2 c.2.2.2) with
    | none => none
    | some o => m_back ih mi pc c.1 c.2.1 c.2.2.1 o)
  | some (.inr (.inr o)) => some o
noncomputable def m_run (xs : Nat → Int32) (L : Nat) (n : Nat) : Nat → MCfg → Option (MOut × MHp) :=
  Nat.rec (motive := fun _ => Nat → MCfg → Option (MOut × MHp)) (fun _ _ => none) (fun _ ih => m_stepF xs L ih) n
theorem m_run_zero (xs : Nat → Int32) (L mi : Nat) (c : MCfg) : m_run xs L 0 mi c = none := rfl
theorem m_run_succ (xs : Nat → Int32) (L n mi : Nat) (c : MCfg) : m_run xs L (n + 1) mi c = m_stepF xs L (m_run xs L n) mi c := rfl
