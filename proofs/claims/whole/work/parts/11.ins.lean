/-! ===== an instruction of the small machine is one of the machine's: the stack, the locals, jumps ===== -/
theorem m_i {a : Int} (h : m_in a) : (Int32.ofInt a).toInt = a := by
  unfold m_in at h
  first
  | exact Int32.toInt_ofInt_of_le (by omega) (by omega)
  | (rw [Int32.toInt_ofInt]; exact Int.bmod_eq_of_le (by decide +revert) (by decide +revert))
theorem m_inT (x : Int32) : m_in x.toInt := by
  have h1 := Int32.le_toInt x
  have h2 := Int32.toInt_lt x
  unfold m_in
  omega
theorem m_vI (A : List Nat) (b : Nat) (x : Int32) : m_val A b (vI x.toInt) = .int x := by
  show Value.int (Int32.ofInt x.toInt) = .int x
  rw [Int32.ofInt_toInt]
theorem m_ilt {a b : Int} (ha : m_in a) (hb : m_in b) : Int32.ofInt a < Int32.ofInt b ↔ a < b := by rw [Int32.lt_iff_toInt_lt, m_i ha, m_i hb]
theorem m_ile {a b : Int} (ha : m_in a) (hb : m_in b) : Int32.ofInt a ≤ Int32.ofInt b ↔ a ≤ b := by rw [Int32.le_iff_toInt_le, m_i ha, m_i hb]
theorem m_ieq {a b : Int} (ha : m_in a) (hb : m_in b) : Int32.ofInt a = Int32.ofInt b ↔ a = b := by rw [← Int32.toInt_inj, m_i ha, m_i hb]
theorem m_in0 : m_in 0 := ⟨by decide, by decide⟩
theorem m_z0 : (0 : Int32) = Int32.ofInt 0 := by decide
theorem m_i8 {n : Int} (h : -128 ≤ n ∧ n < 128) : (Int8.ofInt n).toInt32 = Int32.ofInt n := by
  have h1 : ∀ k : Fin 256, (Int8.ofInt ((k.val : Int) - 128)).toInt32 = Int32.ofInt ((k.val : Int) - 128) := by decide +kernel
  have h2 := h1 ⟨(n + 128).toNat, by omega⟩
  have e : (((n + 128).toNat : Nat) : Int) - 128 = n := by omega
  simp only [e] at h2
  exact h2
theorem m_i16 {n : Int} (h : -32768 ≤ n ∧ n < 32768) : (Int16.ofInt n).toInt32 = Int32.ofInt n := by
  rw [← Int32.toInt_inj, m_i (a := n) ⟨by omega, by omega⟩, Int16.toInt_toInt32]
  first
  | exact Int16.toInt_ofInt_of_le (by omega) (by omega)
  | (rw [Int16.toInt_ofInt]; exact Int.bmod_eq_of_le (by decide +revert) (by decide +revert))
theorem m_nn32_ok {r : UInt32} (h : m_nn32 r = true) : vf_n32 r := by
  unfold m_nn32 at h
  unfold vf_n32
  simpa using h
theorem m_nn64_ok {r : UInt64} (h : m_nn64 r = true) : vf_n64 r := by
  unfold m_nn64 at h
  unfold vf_n64
  simpa using h
section G
variable {D : va_G} {Y : Nat → ClassId} {b : Nat} {A0 : Nat → Prop} {xs : Nat → Int32} {L : Nat} {l : Launch} {o : MOut} {h' : MHp} {mi : Nat} {pc : Nat} {r : MCode} {ls st : List MV} {h : MHp}
theorem g_iconst {n : Int} (hd : decode (m_cc mi) pc = .ok (.iconst n, 1)) (hn : m_in n) (K : m_G D Y b A0 xs L l o h' mi r ls (vI n :: st) h) (hp : m_pc r = pc + 1) : m_G D Y b A0 xs L l o h' mi ((pc, .iconst n) :: r) ls st h :=
  K.stk hp (fun _ h2 _ => m_okL.cons hn h2) (fun p e R s m args below meth c A H locs cells slots lsA Q hC _ _ _ _ _ _ _ k => lv_iconst hC.1 hC.2.1 hd rfl k)
theorem g_bipush {n : Int} (hd : decode (m_cc mi) pc = .ok (.bipush n, 2)) (hn : -128 ≤ n ∧ n < 128) (K : m_G D Y b A0 xs L l o h' mi r ls (vI n :: st) h) (hp : m_pc r = pc + 2) : m_G D Y b A0 xs L l o h' mi ((pc, .bipush n) :: r) ls st h :=
  K.stk hp (fun _ h2 _ => m_okL.cons (show m_in n from ⟨by omega, by omega⟩) h2) (fun p e R s m args below meth c A H locs cells slots lsA Q hC _ _ _ _ _ _ _ k => lv_bipush hC.1 hC.2.1 hd (m_i8 hn) k)
theorem g_sipush {n : Int} (hd : decode (m_cc mi) pc = .ok (.sipush n, 3)) (hn : -32768 ≤ n ∧ n < 32768) (K : m_G D Y b A0 xs L l o h' mi r ls (vI n :: st) h) (hp : m_pc r = pc + 3) : m_G D Y b A0 xs L l o h' mi ((pc, .sipush n) :: r) ls st h :=
  K.stk hp (fun _ h2 _ => m_okL.cons (show m_in n from ⟨by omega, by omega⟩) h2) (fun p e R s m args below meth c A H locs cells slots lsA Q hC _ _ _ _ _ _ _ k => lv_sipush hC.1 hC.2.1 hd (m_i16 hn) k)
theorem g_lconst {n : Fin 2} (hd : decode (m_cc mi) pc = .ok (.lconst n, 1)) (K : m_G D Y b A0 xs L l o h' mi r ls (vL (Int64.ofNat n) :: st) h) (hp : m_pc r = pc + 1) : m_G D Y b A0 xs L l o h' mi ((pc, .lconst n) :: r) ls st h :=
  K.stk hp (fun _ h2 _ => m_okL.cons trivial h2) (fun p e R s m args below meth c A H locs cells slots lsA Q hC _ _ _ _ _ _ _ k => lv_lconst hC.1 hC.2.1 hd rfl k)
theorem g_fconst (hd : decode (m_cc mi) pc = .ok (.fconst 0, 1)) (K : m_G D Y b A0 xs L l o h' mi r ls (vF 0 :: st) h) (hp : m_pc r = pc + 1) : m_G D Y b A0 xs L l o h' mi ((pc, .fconst 0) :: r) ls st h :=
  K.stk hp (fun _ h2 _ => m_okL.cons trivial h2) (fun p e R s m args below meth c A H locs cells slots lsA Q hC _ _ _ _ _ _ _ k => lv_fconst0 hC.1 hC.2.1 hd k)
theorem g_iload_n {k : Fin 4} {a : Int} (hd : decode (m_cc mi) pc = .ok (.iload_n k, 1)) (hv : ls[k.val]? = some (vI a)) (K : m_G D Y b A0 xs L l o h' mi r ls (vI a :: st) h) (hp : m_pc r = pc + 1) : m_G D Y b A0 xs L l o h' mi ((pc, .iload_n k) :: r) ls st h :=
  K.stk hp (fun h1 h2 _ => m_okL.cons (h1.get hv) h2) (fun p e R s m args below meth c A H locs cells slots lsA Q hC _ _ _ _ hL _ _ kk => lv_iload_n hC.1 hC.2.1 hd rfl (hL.2.2.2 _ _ hv rfl) kk)
theorem g_iload {k : Nat} {a : Int} (hd : decode (m_cc mi) pc = .ok (.iload k, 2)) (hv : ls[k]? = some (vI a)) (K : m_G D Y b A0 xs L l o h' mi r ls (vI a :: st) h) (hp : m_pc r = pc + 2) : m_G D Y b A0 xs L l o h' mi ((pc, .iload k) :: r) ls st h :=
  K.stk hp (fun h1 h2 _ => m_okL.cons (h1.get hv) h2) (fun p e R s m args below meth c A H locs cells slots lsA Q hC _ _ _ _ hL _ _ kk => lv_iload hC.1 hC.2.1 hd (hL.2.2.2 _ _ hv rfl) kk)
theorem g_aload_n {k : Fin 4} {a : Nat} (hd : decode (m_cc mi) pc = .ok (.aload_n k, 1)) (hv : ls[k.val]? = some (vR a)) (K : m_G D Y b A0 xs L l o h' mi r ls (vR a :: st) h) (hp : m_pc r = pc + 1) : m_G D Y b A0 xs L l o h' mi ((pc, .aload_n k) :: r) ls st h :=
  K.stk hp (fun h1 h2 _ => m_okL.cons (h1.get hv) h2) (fun p e R s m args below meth c A H locs cells slots lsA Q hC _ _ _ _ hL _ _ kk => lv_aload_n hC.1 hC.2.1 hd rfl (hL.2.2.2 _ _ hv rfl) kk)
theorem g_aload {k : Nat} {a : Nat} (hd : decode (m_cc mi) pc = .ok (.aload k, 2)) (hv : ls[k]? = some (vR a)) (K : m_G D Y b A0 xs L l o h' mi r ls (vR a :: st) h) (hp : m_pc r = pc + 2) : m_G D Y b A0 xs L l o h' mi ((pc, .aload k) :: r) ls st h :=
  K.stk hp (fun h1 h2 _ => m_okL.cons (h1.get hv) h2) (fun p e R s m args below meth c A H locs cells slots lsA Q hC _ _ _ _ hL _ _ kk => lv_aload hC.1 hC.2.1 hd (hL.2.2.2 _ _ hv rfl) kk)
theorem g_sload_n {k : Fin 4} (hd : decode (m_cc mi) pc = .ok (.aload_n k, 1)) (hv : ls[k.val]? = some vS) (K : m_G D Y b A0 xs L l o h' mi r ls (vS :: st) h) (hp : m_pc r = pc + 1) : m_G D Y b A0 xs L l o h' mi ((pc, .aload_n k) :: r) ls st h :=
  K.stk hp (fun h1 h2 _ => m_okL.cons (h1.get hv) h2) (fun p e R s m args below meth c A H locs cells slots lsA Q hC _ _ _ _ hL _ _ kk => lv_aload_n hC.1 hC.2.1 hd rfl (hL.2.2.2 _ _ hv rfl) kk)
theorem g_sload {k : Nat} (hd : decode (m_cc mi) pc = .ok (.aload k, 2)) (hv : ls[k]? = some vS) (K : m_G D Y b A0 xs L l o h' mi r ls (vS :: st) h) (hp : m_pc r = pc + 2) : m_G D Y b A0 xs L l o h' mi ((pc, .aload k) :: r) ls st h :=
  K.stk hp (fun h1 h2 _ => m_okL.cons (h1.get hv) h2) (fun p e R s m args below meth c A H locs cells slots lsA Q hC _ _ _ _ hL _ _ kk => lv_aload hC.1 hC.2.1 hd (hL.2.2.2 _ _ hv rfl) kk)
theorem g_fload_n {k : Fin 4} {a : UInt32} (hd : decode (m_cc mi) pc = .ok (.fload_n k, 1)) (hv : ls[k.val]? = some (vF a)) (K : m_G D Y b A0 xs L l o h' mi r ls (vF a :: st) h) (hp : m_pc r = pc + 1) : m_G D Y b A0 xs L l o h' mi ((pc, .fload_n k) :: r) ls st h :=
  K.stk hp (fun h1 h2 _ => m_okL.cons (h1.get hv) h2) (fun p e R s m args below meth c A H locs cells slots lsA Q hC _ _ _ _ hL _ _ kk => lv_fload_n hC.1 hC.2.1 hd rfl (hL.2.2.2 _ _ hv rfl) kk)
theorem g_fload {k : Nat} {a : UInt32} (hd : decode (m_cc mi) pc = .ok (.fload k, 2)) (hv : ls[k]? = some (vF a)) (K : m_G D Y b A0 xs L l o h' mi r ls (vF a :: st) h) (hp : m_pc r = pc + 2) : m_G D Y b A0 xs L l o h' mi ((pc, .fload k) :: r) ls st h :=
  K.stk hp (fun h1 h2 _ => m_okL.cons (h1.get hv) h2) (fun p e R s m args below meth c A H locs cells slots lsA Q hC _ _ _ _ hL _ _ kk => lv_fload hC.1 hC.2.1 hd (hL.2.2.2 _ _ hv rfl) kk)
theorem g_istore_n {k : Fin 4} {a : Int} (hd : decode (m_cc mi) pc = .ok (.istore_n k, 1)) (hk : k.val < ls.length) (K : m_G D Y b A0 xs L l o h' mi r (ls.set k.val (vI a)) st h) (hp : m_pc r = pc + 1) : m_G D Y b A0 xs L l o h' mi ((pc, .istore_n k) :: r) ls (vI a :: st) h :=
  K.loc hp hk rfl (fun _ h2 => ⟨h2.head, h2.tail⟩) (fun p e R s m args below meth c A H locs cells slots lsA Q hC _ hL kk => lv_istore_n hC.1 hC.2.1 hd rfl hL.has hk rfl (fun lsB hB => kk lsB (hL.stored hk rfl hB)))
theorem g_istore {k : Nat} {a : Int} (hd : decode (m_cc mi) pc = .ok (.istore k, 2)) (hk : k < ls.length) (K : m_G D Y b A0 xs L l o h' mi r (ls.set k (vI a)) st h) (hp : m_pc r = pc + 2) : m_G D Y b A0 xs L l o h' mi ((pc, .istore k) :: r) ls (vI a :: st) h :=
  K.loc hp hk rfl (fun _ h2 => ⟨h2.head, h2.tail⟩) (fun p e R s m args below meth c A H locs cells slots lsA Q hC _ hL kk => lv_istore hC.1 hC.2.1 hd hL.has hk rfl (fun lsB hB => kk lsB (hL.stored hk rfl hB)))
theorem g_astore_n {k : Fin 4} {a : Nat} (hd : decode (m_cc mi) pc = .ok (.astore_n k, 1)) (hk : k.val < ls.length) (K : m_G D Y b A0 xs L l o h' mi r (ls.set k.val (vR a)) st h) (hp : m_pc r = pc + 1) : m_G D Y b A0 xs L l o h' mi ((pc, .astore_n k) :: r) ls (vR a :: st) h :=
  K.loc hp hk rfl (fun _ h2 => ⟨h2.head, h2.tail⟩) (fun p e R s m args below meth c A H locs cells slots lsA Q hC _ hL kk => lv_astore_n hC.1 hC.2.1 hd rfl hL.has hk rfl (fun lsB hB => kk lsB (hL.stored hk rfl hB)))
theorem g_astore {k : Nat} {a : Nat} (hd : decode (m_cc mi) pc = .ok (.astore k, 2)) (hk : k < ls.length) (K : m_G D Y b A0 xs L l o h' mi r (ls.set k (vR a)) st h) (hp : m_pc r = pc + 2) : m_G D Y b A0 xs L l o h' mi ((pc, .astore k) :: r) ls (vR a :: st) h :=
  K.loc hp hk rfl (fun _ h2 => ⟨h2.head, h2.tail⟩) (fun p e R s m args below meth c A H locs cells slots lsA Q hC _ hL kk => lv_astore hC.1 hC.2.1 hd hL.has hk rfl (fun lsB hB => kk lsB (hL.stored hk rfl hB)))
theorem g_fstore_n {k : Fin 4} {a : UInt32} (hd : decode (m_cc mi) pc = .ok (.fstore_n k, 1)) (hk : k.val < ls.length) (K : m_G D Y b A0 xs L l o h' mi r (ls.set k.val (vF a)) st h) (hp : m_pc r = pc + 1) : m_G D Y b A0 xs L l o h' mi ((pc, .fstore_n k) :: r) ls (vF a :: st) h :=
  K.loc hp hk rfl (fun _ h2 => ⟨h2.head, h2.tail⟩) (fun p e R s m args below meth c A H locs cells slots lsA Q hC _ hL kk => lv_fstore_n hC.1 hC.2.1 hd rfl hL.has hk rfl (fun lsB hB => kk lsB (hL.stored hk rfl hB)))
theorem g_fstore {k : Nat} {a : UInt32} (hd : decode (m_cc mi) pc = .ok (.fstore k, 2)) (hk : k < ls.length) (K : m_G D Y b A0 xs L l o h' mi r (ls.set k (vF a)) st h) (hp : m_pc r = pc + 2) : m_G D Y b A0 xs L l o h' mi ((pc, .fstore k) :: r) ls (vF a :: st) h :=
  K.loc hp hk rfl (fun _ h2 => ⟨h2.head, h2.tail⟩) (fun p e R s m args below meth c A H locs cells slots lsA Q hC _ hL kk => lv_fstore hC.1 hC.2.1 hd hL.has hk rfl (fun lsB hB => kk lsB (hL.stored hk rfl hB)))
theorem m_has_cons {lsA : Array Slot} {n : Nat} {lv : List (Nat × Value)} {q : Nat × Value} (h : lv_has lsA n lv) (hq : lsA[q.1]? = some (.val q.2)) : lv_has lsA n (q :: lv) :=
  ⟨h.1, h.2.1, fun w hw => by
    rcases List.mem_cons.mp hw with rfl | hw
    · exact hq
    · exact h.2.2 w hw⟩
theorem g_iinc {k : Nat} {a n : Int} (hd : decode (m_cc mi) pc = .ok (.iinc k n, 3)) (hv : ls[k]? = some (vI a)) (K : m_G D Y b A0 xs L l o h' mi r (ls.set k (vI (m_add a n))) st h) (hp : m_pc r = pc + 3) : m_G D Y b A0 xs L l o h' mi ((pc, .iinc k n) :: r) ls st h := by
  have hk : k < ls.length := (List.getElem?_eq_some_iff.mp hv).1
  refine K.loc hp hk rfl (fun _ h2 => ⟨m_inT _, h2⟩) (fun p e R s m args below meth c A H locs cells slots lsA Q hC _ hL kk => ?_)
  have hg := hL.2.2.2 _ _ hv rfl
  have h1 : lv_has lsA ls.length ((k, .int (Int32.ofInt a)) :: m_lv A b ls) := m_has_cons hL.has hg
  refine lv_iinc (k := 0) hC.1 hC.2.1 hd h1 rfl rfl hk rfl (fun lsB hB => kk lsB (hL.stored hk rfl ⟨hB.1, hB.2.1, fun q hq => hB.2.2 q ?_⟩))
  rcases List.mem_cons.mp hq with rfl | hq
  · rw [show m_val A b (vI (m_add a n)) = .int (Int32.ofInt a + Int32.ofInt n) from m_vI A b _]
    exact List.mem_cons_self
  · refine List.mem_cons_of_mem _ ?_
    obtain ⟨q1, q2⟩ := List.mem_filter.mp hq
    exact List.mem_filter.mpr ⟨List.mem_cons_of_mem _ q1, q2⟩
theorem g_iadd {x y : Int} (hd : decode (m_cc mi) pc = .ok (.iadd, 1)) (K : m_G D Y b A0 xs L l o h' mi r ls (vI (m_add x y) :: st) h) (hp : m_pc r = pc + 1) : m_G D Y b A0 xs L l o h' mi ((pc, .iadd) :: r) ls (vI y :: vI x :: st) h :=
  K.stk hp (fun _ h2 _ => m_okL.cons (m_inT _) h2.tail.tail) (fun p e R s m args below meth c A H locs cells slots lsA Q hC _ _ _ _ _ _ _ k => lv_iadd hC.1 hC.2.1 hd (by rw [List.map_cons, show m_val A b (vI (m_add x y)) = _ from m_vI A b _] at k; exact k))
theorem g_isub {x y : Int} (hd : decode (m_cc mi) pc = .ok (.isub, 1)) (K : m_G D Y b A0 xs L l o h' mi r ls (vI (m_sub x y) :: st) h) (hp : m_pc r = pc + 1) : m_G D Y b A0 xs L l o h' mi ((pc, .isub) :: r) ls (vI y :: vI x :: st) h :=
  K.stk hp (fun _ h2 _ => m_okL.cons (m_inT _) h2.tail.tail) (fun p e R s m args below meth c A H locs cells slots lsA Q hC _ _ _ _ _ _ _ k => lv_isub hC.1 hC.2.1 hd (by rw [List.map_cons, show m_val A b (vI (m_sub x y)) = _ from m_vI A b _] at k; exact k))
theorem g_imul {x y : Int} (hd : decode (m_cc mi) pc = .ok (.imul, 1)) (K : m_G D Y b A0 xs L l o h' mi r ls (vI (m_mul x y) :: st) h) (hp : m_pc r = pc + 1) : m_G D Y b A0 xs L l o h' mi ((pc, .imul) :: r) ls (vI y :: vI x :: st) h :=
  K.stk hp (fun _ h2 _ => m_okL.cons (m_inT _) h2.tail.tail) (fun p e R s m args below meth c A H locs cells slots lsA Q hC _ _ _ _ _ _ _ k => lv_imul hC.1 hC.2.1 hd (by rw [List.map_cons, show m_val A b (vI (m_mul x y)) = _ from m_vI A b _] at k; exact k))
theorem g_iand {x y : Int} (hd : decode (m_cc mi) pc = .ok (.iand, 1)) (K : m_G D Y b A0 xs L l o h' mi r ls (vI (m_and x y) :: st) h) (hp : m_pc r = pc + 1) : m_G D Y b A0 xs L l o h' mi ((pc, .iand) :: r) ls (vI y :: vI x :: st) h :=
  K.stk hp (fun _ h2 _ => m_okL.cons (m_inT _) h2.tail.tail) (fun p e R s m args below meth c A H locs cells slots lsA Q hC _ _ _ _ _ _ _ k => lv_iand hC.1 hC.2.1 hd (by rw [List.map_cons, show m_val A b (vI (m_and x y)) = _ from m_vI A b _] at k; exact k))
theorem g_ishr {x y : Int} (hd : decode (m_cc mi) pc = .ok (.ishr, 1)) (K : m_G D Y b A0 xs L l o h' mi r ls (vI (m_shr x y) :: st) h) (hp : m_pc r = pc + 1) : m_G D Y b A0 xs L l o h' mi ((pc, .ishr) :: r) ls (vI y :: vI x :: st) h :=
  K.stk hp (fun _ h2 _ => m_okL.cons (m_inT _) h2.tail.tail) (fun p e R s m args below meth c A H locs cells slots lsA Q hC _ _ _ _ _ _ _ k => lv_ishr hC.1 hC.2.1 hd (by rw [List.map_cons, show m_val A b (vI (m_shr x y)) = _ from m_vI A b _] at k; exact k))
theorem m_nz {y : Int} (hy : m_in y) (h : ¬ y = 0) : ¬ Int32.ofInt y = 0 := by
  rw [m_z0, m_ieq hy m_in0]
  exact h
theorem g_idiv {x y : Int} (hd : decode (m_cc mi) pc = .ok (.idiv, 1)) (hy : ¬ y = 0) (K : m_G D Y b A0 xs L l o h' mi r ls (vI (m_div x y) :: st) h) (hp : m_pc r = pc + 1) : m_G D Y b A0 xs L l o h' mi ((pc, .idiv) :: r) ls (vI y :: vI x :: st) h :=
  K.stk hp (fun _ h2 _ => m_okL.cons (m_inT _) h2.tail.tail) (fun p e R s m args below meth c A H locs cells slots lsA Q hC _ _ _ h2 _ _ _ k => lv_idiv hC.1 hC.2.1 hd (m_nz h2.head hy) (by rw [List.map_cons, show m_val A b (vI (m_div x y)) = _ from m_vI A b _] at k; exact k))
theorem g_irem {x y : Int} (hd : decode (m_cc mi) pc = .ok (.irem, 1)) (hy : ¬ y = 0) (K : m_G D Y b A0 xs L l o h' mi r ls (vI (m_rem x y) :: st) h) (hp : m_pc r = pc + 1) : m_G D Y b A0 xs L l o h' mi ((pc, .irem) :: r) ls (vI y :: vI x :: st) h :=
  K.stk hp (fun _ h2 _ => m_okL.cons (m_inT _) h2.tail.tail) (fun p e R s m args below meth c A H locs cells slots lsA Q hC _ _ _ h2 _ _ _ k => lv_irem hC.1 hC.2.1 hd (m_nz h2.head hy) (by rw [List.map_cons, show m_val A b (vI (m_rem x y)) = _ from m_vI A b _] at k; exact k))
theorem g_i2l {x : Int} (hd : decode (m_cc mi) pc = .ok (.i2l, 1)) (K : m_G D Y b A0 xs L l o h' mi r ls (vL (Int32.ofInt x).toInt64 :: st) h) (hp : m_pc r = pc + 1) : m_G D Y b A0 xs L l o h' mi ((pc, .i2l) :: r) ls (vI x :: st) h :=
  K.stk hp (fun _ h2 _ => m_okL.cons trivial h2.tail) (fun p e R s m args below meth c A H locs cells slots lsA Q hC _ _ _ _ _ _ _ k => lv_i2l hC.1 hC.2.1 hd rfl k)
theorem g_i2f {x : Int} (hd : decode (m_cc mi) pc = .ok (.i2f, 1)) (K : m_G D Y b A0 xs L l o h' mi r ls (vF (FP.i2f (Int32.ofInt x)) :: st) h) (hp : m_pc r = pc + 1) : m_G D Y b A0 xs L l o h' mi ((pc, .i2f) :: r) ls (vI x :: st) h :=
  K.stk hp (fun _ h2 _ => m_okL.cons trivial h2.tail) (fun p e R s m args below meth c A H locs cells slots lsA Q hC _ _ _ _ _ _ _ k => lv_i2f hC.1 hC.2.1 hd k)
theorem g_f2d {x : UInt32} (hd : decode (m_cc mi) pc = .ok (.f2d, 1)) (hn : m_nn64 (FP.f2d x) = true) (K : m_G D Y b A0 xs L l o h' mi r ls (vD (FP.f2d x) :: st) h) (hp : m_pc r = pc + 1) : m_G D Y b A0 xs L l o h' mi ((pc, .f2d) :: r) ls (vF x :: st) h :=
  K.stk hp (fun _ h2 _ => m_okL.cons trivial h2.tail) (fun p e R s m args below meth c A H locs cells slots lsA Q hC _ _ _ _ _ _ _ k => lv_f2d hC.1 hC.2.1 hd (m_nn64_ok hn) k)
theorem g_fmul {x y : UInt32} (hd : decode (m_cc mi) pc = .ok (.fmul, 1)) (hn : m_nn32 (FP.fmul x y) = true) (K : m_G D Y b A0 xs L l o h' mi r ls (vF (FP.fmul x y) :: st) h) (hp : m_pc r = pc + 1) : m_G D Y b A0 xs L l o h' mi ((pc, .fmul) :: r) ls (vF y :: vF x :: st) h :=
  K.stk hp (fun _ h2 _ => m_okL.cons trivial h2.tail.tail) (fun p e R s m args below meth c A H locs cells slots lsA Q hC _ _ _ _ _ _ _ k => lv_fmul hC.1 hC.2.1 hd (m_nn32_ok hn) k)
theorem g_fdiv {x y : UInt32} (hd : decode (m_cc mi) pc = .ok (.fdiv, 1)) (hn : m_nn32 (FP.fdiv x y) = true) (K : m_G D Y b A0 xs L l o h' mi r ls (vF (FP.fdiv x y) :: st) h) (hp : m_pc r = pc + 1) : m_G D Y b A0 xs L l o h' mi ((pc, .fdiv) :: r) ls (vF y :: vF x :: st) h :=
  K.stk hp (fun _ h2 _ => m_okL.cons trivial h2.tail.tail) (fun p e R s m args below meth c A H locs cells slots lsA Q hC _ _ _ _ _ _ _ k => lv_fdiv hC.1 hC.2.1 hd (m_nn32_ok hn) k)
theorem g_fcmp {x y : UInt32} {op : CmpOp} (hd : decode (m_cc mi) pc = .ok (.fcmp op, 1)) (K : m_G D Y b A0 xs L l o h' mi r ls (vI (Op.cmpValue (FP.fcmp x y) op).toInt :: st) h) (hp : m_pc r = pc + 1) : m_G D Y b A0 xs L l o h' mi ((pc, .fcmp op) :: r) ls (vF y :: vF x :: st) h :=
  K.stk hp (fun _ h2 _ => m_okL.cons (m_inT _) h2.tail.tail) (fun p e R s m args below meth c A H locs cells slots lsA Q hC _ _ _ _ _ _ _ k => lv_fcmp hC.1 hC.2.1 hd (by rw [List.map_cons, m_vI] at k; exact k))
theorem g_dcmp {x y : UInt64} {op : CmpOp} (hd : decode (m_cc mi) pc = .ok (.dcmp op, 1)) (K : m_G D Y b A0 xs L l o h' mi r ls (vI (Op.cmpValue (FP.dcmp x y) op).toInt :: st) h) (hp : m_pc r = pc + 1) : m_G D Y b A0 xs L l o h' mi ((pc, .dcmp op) :: r) ls (vD y :: vD x :: st) h :=
  K.stk hp (fun _ h2 _ => m_okL.cons (m_inT _) h2.tail.tail) (fun p e R s m args below meth c A H locs cells slots lsA Q hC _ _ _ _ _ _ _ k => lv_dcmp hC.1 hC.2.1 hd (by rw [List.map_cons, m_vI] at k; exact k))
theorem g_lcmp {x y : Int64} (hd : decode (m_cc mi) pc = .ok (.lcmp, 1)) (K : m_G D Y b A0 xs L l o h' mi r ls (vI (lg_cmp x y).toInt :: st) h) (hp : m_pc r = pc + 1) : m_G D Y b A0 xs L l o h' mi ((pc, .lcmp) :: r) ls (vL y :: vL x :: st) h :=
  K.stk hp (fun _ h2 _ => m_okL.cons (m_inT _) h2.tail.tail) (fun p e R s m args below meth c A H locs cells slots lsA Q hC _ _ _ _ _ _ _ k => W.lcmp hC.1 hC.2.1 hd (by rw [List.map_cons, m_vI] at k; exact k))
theorem g_dup {v : MV} (hd : decode (m_cc mi) pc = .ok (.dup, 1)) (hv : m_cat v = 1) (K : m_G D Y b A0 xs L l o h' mi r ls (v :: v :: st) h) (hp : m_pc r = pc + 1) : m_G D Y b A0 xs L l o h' mi ((pc, .dup) :: r) ls (v :: st) h :=
  K.stk hp (fun _ h2 _ => m_okL.cons h2.head h2) (fun p e R s m args below meth c A H locs cells slots lsA Q hC _ _ _ _ _ _ _ k => lv_dup hC.1 hC.2.1 hd (by rw [m_val_cat]; exact hv) k)
theorem g_dup2 {v w : MV} (hd : decode (m_cc mi) pc = .ok (.dup2, 1)) (hv : m_cat v = 1) (hw : m_cat w = 1) (K : m_G D Y b A0 xs L l o h' mi r ls (v :: w :: v :: w :: st) h) (hp : m_pc r = pc + 1) : m_G D Y b A0 xs L l o h' mi ((pc, .dup2) :: r) ls (v :: w :: st) h :=
  K.stk hp (fun _ h2 _ => m_okL.cons h2.head (m_okL.cons h2.tail.head h2)) (fun p e R s m args below meth c A H locs cells slots lsA Q hC _ _ _ _ _ _ _ k => lv_dup2_11 hC.1 hC.2.1 hd (by rw [m_val_cat]; exact hv) (by rw [m_val_cat]; exact hw) k)
theorem g_pop {v : MV} (hd : decode (m_cc mi) pc = .ok (.pop, 1)) (hv : m_cat v = 1) (K : m_G D Y b A0 xs L l o h' mi r ls st h) (hp : m_pc r = pc + 1) : m_G D Y b A0 xs L l o h' mi ((pc, .pop) :: r) ls (v :: st) h :=
  K.stk hp (fun _ h2 _ => h2.tail) (fun p e R s m args below meth c A H locs cells slots lsA Q hC _ _ _ _ _ _ _ k => lv_pop hC.1 hC.2.1 hd (by rw [m_val_cat]; exact hv) k)
theorem g_goto {off : Int} {j : MCode} (hd : decode (m_cc mi) pc = .ok (.goto off, 3)) (K : m_G D Y b A0 xs L l o h' mi j ls st h) (hp : (pc : Int) + off = (m_pc j : Int)) : m_G D Y b A0 xs L l o h' mi ((pc, .goto off) :: r) ls st h :=
  K.stk rfl (fun _ h2 _ => h2) (fun p e R s m args below meth c A H locs cells slots lsA Q hC _ _ _ _ _ _ _ k => lv_goto hC.1 hC.2.1 hd hp k)
theorem g_if_t {cd : Jvm.ClassFile.Cond} {off : Int} {j : MCode} {a : Int} (hd : decode (m_cc mi) pc = .ok (.ifCond cd off, 3)) (hc : m_holds cd a 0 = true) (K : m_G D Y b A0 xs L l o h' mi j ls st h) (hp : (pc : Int) + off = (m_pc j : Int)) : m_G D Y b A0 xs L l o h' mi ((pc, .ifCond cd off) :: r) ls (vI a :: st) h := by
  refine K.stk rfl (fun _ h2 _ => h2.tail) (fun p e R s m args below meth c A H locs cells slots lsA Q hC _ _ _ h2 _ _ _ k => ?_)
  have ha : m_in a := h2.head
  show W p l e R s m args below meth c H locs cells slots Q (F0 m pc lsA (.int (Int32.ofInt a) :: st.map (m_val A b)))
  cases cd <;> have hc := of_decide_eq_true hc
  · exact lv_if_eq hC.1 hC.2.1 hd hp (fun _ => k) (fun q => absurd (by rw [m_z0, m_ieq ha m_in0]; exact hc) q)
  · exact lv_if_ne hC.1 hC.2.1 hd hp (fun _ => k) (fun q => absurd (by rw [m_z0, m_ieq ha m_in0] at q; exact q) hc)
  · exact lv_if_lt hC.1 hC.2.1 hd hp (fun _ => k) (fun q => absurd (by rw [m_z0, m_ilt ha m_in0]; exact hc) q)
  · exact lv_if_ge hC.1 hC.2.1 hd hp (fun _ => k) (fun q => absurd (by rw [m_z0, m_ile m_in0 ha]; exact hc) q)
  · exact lv_if_gt hC.1 hC.2.1 hd hp (fun _ => k) (fun q => absurd (by rw [m_z0, m_ilt m_in0 ha]; exact hc) q)
  · exact lv_if_le hC.1 hC.2.1 hd hp (fun _ => k) (fun q => absurd (by rw [m_z0, m_ile ha m_in0]; exact hc) q)
theorem g_if_f {cd : Jvm.ClassFile.Cond} {off : Int} {j : MCode} {a : Int} (hd : decode (m_cc mi) pc = .ok (.ifCond cd off, 3)) (hc : ¬ m_holds cd a 0 = true) (K : m_G D Y b A0 xs L l o h' mi r ls st h) (hq : m_pc r = pc + 3) (hp : (pc : Int) + off = (m_pc j : Int)) : m_G D Y b A0 xs L l o h' mi ((pc, .ifCond cd off) :: r) ls (vI a :: st) h := by
  refine K.stk hq (fun _ h2 _ => h2.tail) (fun p e R s m args below meth c A H locs cells slots lsA Q hC _ _ _ h2 _ _ _ k => ?_)
  have ha : m_in a := h2.head
  show W p l e R s m args below meth c H locs cells slots Q (F0 m pc lsA (.int (Int32.ofInt a) :: st.map (m_val A b)))
  cases cd <;> have hc := fun z => hc (decide_eq_true z)
  · exact lv_if_eq hC.1 hC.2.1 hd hp (fun q => absurd (by rw [m_z0, m_ieq ha m_in0] at q; exact q) hc) (fun _ => k)
  · exact lv_if_ne hC.1 hC.2.1 hd hp (fun q => absurd (by rw [m_z0, m_ieq ha m_in0] at q; exact q) hc) (fun _ => k)
  · exact lv_if_lt hC.1 hC.2.1 hd hp (fun q => absurd (by rw [m_z0, m_ilt ha m_in0] at q; exact q) hc) (fun _ => k)
  · exact lv_if_ge hC.1 hC.2.1 hd hp (fun q => absurd (by rw [m_z0, m_ile m_in0 ha] at q; exact q) hc) (fun _ => k)
  · exact lv_if_gt hC.1 hC.2.1 hd hp (fun q => absurd (by rw [m_z0, m_ilt m_in0 ha] at q; exact q) hc) (fun _ => k)
  · exact lv_if_le hC.1 hC.2.1 hd hp (fun q => absurd (by rw [m_z0, m_ile ha m_in0] at q; exact q) hc) (fun _ => k)
theorem g_icmp_t {cd : Jvm.ClassFile.Cond} {off : Int} {j : MCode} {x y : Int} (hd : decode (m_cc mi) pc = .ok (.if_icmp cd off, 3)) (hc : m_holds cd x y = true) (K : m_G D Y b A0 xs L l o h' mi j ls st h) (hp : (pc : Int) + off = (m_pc j : Int)) : m_G D Y b A0 xs L l o h' mi ((pc, .if_icmp cd off) :: r) ls (vI y :: vI x :: st) h := by
  refine K.stk rfl (fun _ h2 _ => h2.tail.tail) (fun p e R s m args below meth c A H locs cells slots lsA Q hC _ _ _ h2 _ _ _ k => ?_)
  have hy : m_in y := h2.head
  have hx : m_in x := h2.tail.head
  show W p l e R s m args below meth c H locs cells slots Q (F0 m pc lsA (.int (Int32.ofInt y) :: .int (Int32.ofInt x) :: st.map (m_val A b)))
  cases cd <;> have hc := of_decide_eq_true hc
  · exact lv_icmp_eq hC.1 hC.2.1 hd hp (fun _ => k) (fun q => absurd (by rw [m_ieq hx hy]; exact hc) q)
  · exact lv_icmp_ne hC.1 hC.2.1 hd hp (fun _ => k) (fun q => absurd (by rw [m_ieq hx hy] at q; exact q) hc)
  · exact lv_icmp_lt hC.1 hC.2.1 hd hp (fun _ => k) (fun q => absurd (by rw [m_ilt hx hy]; exact hc) q)
  · exact lv_icmp_ge hC.1 hC.2.1 hd hp (fun _ => k) (fun q => absurd (by rw [m_ile hy hx]; exact hc) q)
  · exact lv_icmp_gt hC.1 hC.2.1 hd hp (fun _ => k) (fun q => absurd (by rw [m_ilt hy hx]; exact hc) q)
  · exact lv_icmp_le hC.1 hC.2.1 hd hp (fun _ => k) (fun q => absurd (by rw [m_ile hx hy]; exact hc) q)
theorem g_icmp_f {cd : Jvm.ClassFile.Cond} {off : Int} {j : MCode} {x y : Int} (hd : decode (m_cc mi) pc = .ok (.if_icmp cd off, 3)) (hc : ¬ m_holds cd x y = true) (K : m_G D Y b A0 xs L l o h' mi r ls st h) (hq : m_pc r = pc + 3) (hp : (pc : Int) + off = (m_pc j : Int)) : m_G D Y b A0 xs L l o h' mi ((pc, .if_icmp cd off) :: r) ls (vI y :: vI x :: st) h := by
  refine K.stk hq (fun _ h2 _ => h2.tail.tail) (fun p e R s m args below meth c A H locs cells slots lsA Q hC _ _ _ h2 _ _ _ k => ?_)
  have hy : m_in y := h2.head
  have hx : m_in x := h2.tail.head
  show W p l e R s m args below meth c H locs cells slots Q (F0 m pc lsA (.int (Int32.ofInt y) :: .int (Int32.ofInt x) :: st.map (m_val A b)))
  cases cd <;> have hc := fun z => hc (decide_eq_true z)
  · exact lv_icmp_eq hC.1 hC.2.1 hd hp (fun q => absurd (by rw [m_ieq hx hy] at q; exact q) hc) (fun _ => k)
  · exact lv_icmp_ne hC.1 hC.2.1 hd hp (fun q => absurd (by rw [m_ieq hx hy] at q; exact q) hc) (fun _ => k)
  · exact lv_icmp_lt hC.1 hC.2.1 hd hp (fun q => absurd (by rw [m_ilt hx hy] at q; exact q) hc) (fun _ => k)
  · exact lv_icmp_ge hC.1 hC.2.1 hd hp (fun q => absurd (by rw [m_ile hy hx] at q; exact q) hc) (fun _ => k)
  · exact lv_icmp_gt hC.1 hC.2.1 hd hp (fun q => absurd (by rw [m_ilt hy hx] at q; exact q) hc) (fun _ => k)
  · exact lv_icmp_le hC.1 hC.2.1 hd hp (fun q => absurd (by rw [m_ile hx hy] at q; exact q) hc) (fun _ => k)
theorem g_sw_out {d lo hi : Int} {offs : Array Int} {len : Nat} {j : MCode} {a : Int} (hd : decode (m_cc mi) pc = .ok (.tableswitch d lo hi offs, len)) (hc : a < lo ∨ hi < a) (K : m_G D Y b A0 xs L l o h' mi j ls st h) (hp : (pc : Int) + d = (m_pc j : Int)) : m_G D Y b A0 xs L l o h' mi ((pc, .tableswitch d lo hi offs) :: r) ls (vI a :: st) h := by
  refine K.stk rfl (fun _ h2 _ => h2.tail) (fun p e R s m args below meth c A H locs cells slots lsA Q hC _ _ _ h2 _ _ _ k => ?_)
  have ha : m_in a := h2.head
  exact lv_tableOut hC.1 hC.2.1 hd (by rw [m_i ha]; exact hc) hp k
theorem g_sw_in {d lo hi off : Int} {offs : Array Int} {len : Nat} {j : MCode} {a : Int} (hd : decode (m_cc mi) pc = .ok (.tableswitch d lo hi offs, len)) (hc : ¬ (a < lo ∨ hi < a)) (ho : offs[(a - lo).toNat]? = some off) (K : m_G D Y b A0 xs L l o h' mi j ls st h) (hp : (pc : Int) + off = (m_pc j : Int)) : m_G D Y b A0 xs L l o h' mi ((pc, .tableswitch d lo hi offs) :: r) ls (vI a :: st) h := by
  refine K.stk rfl (fun _ h2 _ => h2.tail) (fun p e R s m args below meth c A H locs cells slots lsA Q hC _ _ _ h2 _ _ _ k => ?_)
  have ha : m_in a := h2.head
  exact lv_tableIn hC.1 hC.2.1 hd (by rw [m_i ha]; omega) (by rw [m_i ha]; omega) (by rw [m_i ha]; exact ho) hp k
theorem g_max {k q : Nat} {x y : Int} (hd : decode (m_cc mi) pc = .ok (.invokestatic k, 3)) (hk : cR (m_own mi) k = some (2, q)) (hr : 1 ≤ m_frs mi ∧ 21 ≤ m_loc mi) (hst : (st.map m_cat).sum ≤ 8) (hlen : ls.length = m_maxL mi) (K : m_G D Y b A0 xs L l o h' mi r ls (vI (if x < y then y else x) :: st) h) (hp : m_pc r = pc + 3) : m_G D Y b A0 xs L l o h' mi ((pc, .invokestatic k) :: r) ls (vI y :: vI x :: st) h := by
  refine K.stk hp (fun _ h2 _ => m_okL.cons (by split; exact h2.head; exact h2.tail.head) h2.tail.tail) (fun p e R s m args below meth c A H locs cells slots lsA Q hC _ _ _ h2 hL hc1 hc2 kk => ?_)
  have hy : m_in y := h2.head
  have hx : m_in x := h2.tail.head
  obtain ⟨q1, hq1⟩ := m_ccs (m_own mi) _ (m_lookup hk)
  obtain ⟨g1, g2, g3, g4, g5, -, -, -, -, -, -, -, -, g6, g7⟩ := hC
  have e : m_val A b (vI (if x < y then y else x)) = .int (if Int32.ofInt x < Int32.ofInt y then Int32.ofInt y else Int32.ofInt x) := by
    by_cases hxy : x < y
    · rw [if_pos hxy, if_pos ((m_ilt hx hy).mpr hxy)]; rfl
    · rw [if_neg hxy, if_neg (fun z => hxy ((m_ilt hx hy).mp z))]; rfl
  rw [List.map_cons, e] at kk
  exact va_mmax g1 g2 (by rw [g3, hL.1, hlen]) g4 (g5 _ (m_pg_ok hq1)) (g5 _ m_maxw.1) (g5 _ m_maxw.2.1) (g5 _ m_maxw.2.2) (by omega) (by rw [m_cat_sum]; omega) hc1 hc2 hd kk
theorem g_obj {k q z : Nat} (hd : decode (m_cc mi) pc = .ok (.invokespecial k, 3)) (hk : cR (m_own mi) k = some (3, q)) (hr : 1 ≤ m_frs mi ∧ 20 ≤ m_loc mi) (hst : (st.map m_cat).sum ≤ 8) (hlen : ls.length = m_maxL mi) (K : m_G D Y b A0 xs L l o h' mi r ls st h) (hp : m_pc r = pc + 3) : m_G D Y b A0 xs L l o h' mi ((pc, .invokespecial k) :: r) ls (vR z :: st) h := by
  refine K.stk hp (fun _ h2 _ => h2.tail) (fun p e R s m args below meth c A H locs cells slots lsA Q hC _ _ _ h2 hL hc1 hc2 kk => ?_)
  obtain ⟨q1, hq1⟩ := m_ccs (m_own mi) _ (m_lookup hk)
  obtain ⟨g1, g2, g3, g4, g5, -, -, -, -, -, -, -, -, g6, g7⟩ := hC
  exact W.objInit g1 g2 g4 (g5 _ (m_pg_ok hq1)) (g5 _ m_objw.1) (g5 _ m_objw.2) rfl (by rw [g3, ← hlen]; exact hL.1) rfl hd (by omega) (by rw [m_cat_sum]; show 2 * 0 + _ + 12 ≤ _; omega) kk
end G
