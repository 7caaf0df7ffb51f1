/-! ===== from the first instruction to the loop ===== -/
def S0 : Sg := fun f i _ => if f = 16 ∨ f = 40 ∨ f = 78 ∨ f = 1205 ∨ f = 1304 ∨ f = 1305 ∨ f = 1306 then -1 else if f = 1100 ∨ f = 1300 then (i : Int) else if f = 1500 then ((i % 6 : Nat) : Int) else 0
theorem S0_e : e_h (mk S0 0).1 h0 = true := by decide +kernel
theorem S0_heap : mk S0 0 = (h0, 343, 4862) := Prod.ext (e_h_ok S0_e) rfl
section V
variable {xs : Nat → Int32} {L : Nat} {pc : Nat} {r : MCode} {ls st : List MV} {h : MHp} {Q : MOut → MHp → Prop}
theorem N_8 : m_ok xs L 177 ((pc, .new 8) :: r) ls st h Q ↔ m_ok xs L 177 r ls (vR h.1.length :: st) (m_push h 9 (tD.getD 9 [])) Q := m_ok_step
theorem N_91 : m_ok xs L 177 ((pc, .new 91) :: r) ls st h Q ↔ m_ok xs L 177 r ls (vR h.1.length :: st) (m_push h 10 (tD.getD 10 [])) Q := m_ok_step
theorem N_long : m_ok xs L 177 ((pc, .newarray .long) :: r) ls (vI 1 :: st) h Q ↔ m_ok xs L 177 r ls (vR h.1.length :: st) (m_push h 23 (List.replicate 1 (vL 0))) Q := m_ok_step
theorem N_double : m_ok xs L 177 ((pc, .newarray .double) :: r) ls (vI 1 :: st) h Q ↔ m_ok xs L 177 r ls (vR h.1.length :: st) (m_push h 24 (List.replicate 1 (vD 0))) Q := m_ok_step
theorem I_90 {o : Nat} (h8 : (st.map m_cat).sum ≤ 8) : m_ok xs L 177 ((pc, .invokespecial 90) :: r) ls (vR o :: st) h Q ↔ m_do xs L 63 [vR o] h (m_cont xs L 177 pc r ls st Q) := V_invi (mj := 63) (z := 1) (av := []) rfl (Or.inl rfl) rfl rfl h8 rfl (Nat.le_of_ble_eq_true rfl)
theorem I_93 {o : Nat} (h8 : (st.map m_cat).sum ≤ 8) : m_ok xs L 177 ((pc, .invokespecial 93) :: r) ls (vR o :: st) h Q ↔ m_do xs L 96 [vR o] h (m_cont xs L 177 pc r ls st Q) := V_invi (mj := 96) (z := 1) (av := []) rfl (Or.inl rfl) rfl rfl h8 rfl (Nat.le_of_ble_eq_true rfl)
theorem do_9 (K : Q (.inl none) (hC, 296, 3318)) : m_do xs L 63 [vR 0] ([(9, tD.getD 9 [])], 1, 5) Q := ⟨3000, _, m_run_free t_init9, K⟩
theorem do_10 (K : Q (.inl none) (hM, 341, 4860)) : m_do xs L 96 [vR 296] (hC ++ [(10, tD.getD 10 [])], 297, 3368) Q := ⟨2034, _, m_run_free t_init10, K⟩
set_option maxRecDepth 20000 in
theorem law_begin (K : m_ok xs L 177 b_177_28 [vS, vR 0, vR 296, vR 341, vR 342, vI 0, vU, vU] [] (mk S0 0) Q) : m_ok xs L 177 b_177_0 [vS, vU, vU, vU, vU, vU, vU, vU] [] ([], 0, 0) Q := by
  rw [S0_heap] at K
  have lC : hC.length = 296 := by decide +kernel
  have lM : hM.length = 341 := by decide +kernel
  unfold b_177_0
  rw [N_8, V_dup_vR, I_90 (by decide)]
  refine do_9 ?_
  rw [V_contn, V_astoren1, N_91]
  show m_ok xs L 177 _ _ (vR hC.length :: []) (hC ++ [(10, tD.getD 10 [])], 297, 3368) Q
  rw [lC, V_dup_vR, I_93 (by decide)]
  refine do_10 ?_
  rw [V_contn, V_astoren2, V_iconst]
  refine ⟨by decide, ?_⟩
  rw [N_long]
  show m_ok xs L 177 _ _ (vR hM.length :: []) (hM ++ [(23, List.replicate 1 (vL 0))], 342, 4861) Q
  rw [lM, V_astoren3, V_iconst]
  refine ⟨by decide, ?_⟩
  rw [N_double]
  have l2 : (hM ++ [(23, List.replicate 1 (vL 0))]).length = 342 := by rw [List.length_append, lM]; rfl
  show m_ok xs L 177 _ _ (vR (hM ++ [(23, List.replicate 1 (vL 0))]).length :: []) ((hM ++ [(23, List.replicate 1 (vL 0))]) ++ [(24, List.replicate 1 (vD 0))], 343, 4862) Q
  rw [l2, List.append_assoc, V_astore4, V_iconst]
  refine ⟨by decide, ?_⟩
  rw [V_istore5]
  exact K
end V
