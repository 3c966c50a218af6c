/-! ===== MAKING a change, by its number: alike ===== -/
section K_FB
variable {E : k_E} {M M1 : k_M} {dp d1 pc k n k1 n1 na : Nat} {ls : List (Nat × Value)} {st as : List Value} {sh : List k_Sh} {σ σ' : Nat → Nat → Int} {Q Q1 : k_Q} {o : Option Value}
set_option maxHeartbeats 4000000 in
theorem c_make2 (hsh : k_Main sh) (hOK : k_OK σ) {m a b c : Int} (hm : 0 ≤ m ∧ m < 12) (ha : -2147483648 ≤ a ∧ a < 2147483648) (hb : -2147483648 ≤ b ∧ b < 2147483648) (hc : -2147483648 ≤ c ∧ c < 2147483648) (hch : e_fault σ m a b c = 0 → k_chg σ m a b c)  : k_C E mX7_make 14 [.ref 0, .int (iI (m)), .int (iI (a)), .int (iI (b)), .int (iI (c))] sh σ 1 6 (k_rx (r_make σ m a b c) sh (u_make σ m a b c)) := by
  refine k_C_of (ls0 := [(0, .ref 0), (1, .int (iI (m))), (2, .int (iI (a))), (3, .int (iI (b))), (4, .int (iI (c)))]) rfl pnX7 (fun v hv => k_cat1 rfl hv) (Nat.le_of_ble_eq_true rfl) rfl ?_
  have he := e_fault_r σ m a b c
  refine k_aload_n dX7_make_0 0 rfl rfl (by decide) ?_
  refine k_get (kf := 4) (v := .ref 23) dX7_make_1 kcX7 w_362 (by decide) (by decide) (s_0 hsh) rfl rfl ?_
  refine k_iload_n dX7_make_4 1 rfl rfl ?_
  refine k_iload_n dX7_make_5 2 rfl rfl ?_
  refine k_iload_n dX7_make_6 3 rfl rfl ?_
  refine k_iload dX7_make_7 4 rfl ?_
  refine k_callVr (st := []) (as := [.int (iI (m)), .int (iI (a)), .int (iI (b)), .int (iI (c))]) dX7_make_9 oX2_faultOf w_616 w_617 w_618 rfl (by omega) rfl (Nat.le_of_ble_eq_true rfl) (by decide) (s_23 hsh) rfl (c_faultOf hsh hOK.1 hOK.2.2.1 hm ha hb hc) ?_
  refine k_thrF (k := 0) (n := 0) (st := []) dX7_make_12 w_707 w_708 rfl he (by omega) (Nat.le_of_ble_eq_true rfl) (fun h0 => ?_) (fun h0 => ⟨by unfold r_make; rw [if_neg h0], rfl, by unfold u_make; rw [if_neg h0]⟩)
  have hK : k_OK (u_kept σ m a b c) := k_OK_keep (k_OK_fault hOK m a b c)
  have hf : e_fault (u_kept σ m a b c) m a b c = 0 := (((u_keepB_pl (k_OK_fault hOK m a b c).2.2.2.2.2.1).trans (u_fault_pl m a b c)).fault m a b c).trans h0
  refine k_aload_n dX7_make_15 0 rfl rfl (by decide) ?_
  refine k_get (kf := 5) (v := .ref 24) dX7_make_16 kcX7 w_363 (by decide) (by decide) (s_0 hsh) rfl rfl ?_
  refine k_aload_n dX7_make_19 0 rfl rfl (by decide) ?_
  refine k_get (kf := 0) (v := .ref 1) dX7_make_20 kcX7 w_358 (by decide) (by decide) (s_0 hsh) rfl rfl ?_
  refine k_callVr (st := []) (as := [.ref 1]) dX7_make_23 oX3_keep w_417 w_418 w_419 rfl (by omega) rfl (Nat.le_of_ble_eq_true rfl) (by decide) (s_24 hsh) rfl (c_keep hsh (k_OK_fault hOK m a b c).2.2.2.2 (k_plat1 hsh) ⟨by decide, by decide⟩) ?_
  refine k_aload_n dX7_make_26 0 rfl rfl (by decide) ?_
  refine k_get (kf := 4) (v := .ref 23) dX7_make_27 kcX7 w_362 (by decide) (by decide) (s_0 hsh) rfl rfl ?_
  refine k_iload_n dX7_make_30 1 rfl rfl ?_
  refine k_iload_n dX7_make_31 2 rfl rfl ?_
  refine k_iload_n dX7_make_32 3 rfl rfl ?_
  refine k_iload dX7_make_33 4 rfl ?_
  refine k_callVr (st := []) (as := [.int (iI (m)), .int (iI (a)), .int (iI (b)), .int (iI (c))]) dX7_make_35 oX2_perform w_830 w_831 w_832 rfl (by omega) rfl (Nat.le_of_ble_eq_true rfl) (by decide) (s_23 hsh) rfl (c_perform hsh hK.1 hK.2.1 hK.2.2.1 hK.2.2.2.1 hm ha hb hc hf (hch h0)) ?_
  exact k_ret_i dX7_make_38 rfl ⟨(by unfold r_make; rw [if_pos h0]), rfl, (by unfold u_make; rw [if_pos h0])⟩
set_option maxHeartbeats 4000000 in
theorem c7_change2 (hsh : k_Main sh) (hOK : k_OK σ) {a b c : Int} (hch : e_fault σ 10 a b c = 0 → k_chg σ 10 a b c) (ha : -2147483648 ≤ a ∧ a < 2147483648) (hb : -2147483648 ≤ b ∧ b < 2147483648) (hc : -2147483648 ≤ c ∧ c < 2147483648) : k_C E mX7_change 15 [.ref 0, .int (iI (a)), .int (iI (b)), .int (iI (c))] sh σ 1 6 (k_rx (r_make σ 10 a b c) sh (u_make σ 10 a b c)) := by
  refine k_C_of (ls0 := [(0, .ref 0), (1, .int (iI (a))), (2, .int (iI (b))), (3, .int (iI (c)))]) rfl pnX7 (fun v hv => k_cat1 rfl hv) (Nat.le_of_ble_eq_true rfl) rfl ?_
  refine k_aload_n dX7_change_0 0 rfl rfl (by decide) ?_
  refine k_bipush (v := 10) dX7_change_1 (by decide) ?_
  refine k_iload_n dX7_change_3 1 rfl rfl ?_
  refine k_iload_n dX7_change_4 2 rfl rfl ?_
  refine k_iload_n dX7_change_5 3 rfl rfl ?_
  refine k_callVx (k := 0) (n := 0) (st := []) (as := [.int (iI (10)), .int (iI (a)), .int (iI (b)), .int (iI (c))]) dX7_change_6 oX7_make w_612 w_614 w_7 rfl rfl (by decide) rfl (Nat.le_of_ble_eq_true rfl) (by decide) (s_0 hsh) rfl (c_make2 hsh hOK ⟨by decide, by decide⟩ ⟨by omega, by omega⟩ ⟨by omega, by omega⟩ ⟨by omega, by omega⟩ hch) (fun v hv => ?_) (fun X hX => ⟨hX.symm, rfl, rfl⟩)
  unfold r_make at hv
  by_cases h0 : e_fault σ 10 a b c = 0
  rotate_left
  · rw [if_neg h0] at hv; cases hv
  rw [if_pos h0] at hv
  cases hv
  show k_V E mX7_change 15 9 [(0, .ref 0), (1, .int (iI (a))), (2, .int (iI (b))), (3, .int (iI (c)))] [.int (iI (f_perf (u_kept σ 10 a b c) 10 a b c))] sh (u_make σ 10 a b c) 0 0 _
  exact k_ret_i dX7_change_9 rfl ⟨(by unfold r_make; rw [if_pos h0]), rfl, (rfl)⟩
end K_FB
section K_R27
variable {σ ρ τ : Nat → Nat → Int} {r : Nat → Int}
theorem k_P1_pl (h : k_PlEq τ σ) (hR : k_P1 r σ) : k_P1 r τ := by
  unfold k_P1
  rw [h 1 (by decide), h 2 (by decide), h 3 (by decide), h 4 (by decide), h 5 (by decide), h 6 (by decide), h 7 (by decide), h 8 (by decide), h 9 (by decide)]
  exact hR
theorem q_op (hR : k_P1 (ρ 124) σ) (hOK : k_OK σ) (h8 : ρ 123 8 = 0) {m a b c : Int} (hm : 0 ≤ m ∧ m < 12) : k_op (e_fault σ m a b c) (f_perf σ m a b c) (u_perf σ m a b c) ρ (m_acts ρ m a b c) := by
  obtain ⟨hI, hS, hC, hA, hH⟩ := hOK
  have : m = 0 ∨ m = 1 ∨ m = 2 ∨ m = 3 ∨ m = 4 ∨ m = 5 ∨ m = 6 ∨ m = 7 ∨ m = 8 ∨ m = 9 ∨ m = 10 ∨ m = 11 := by omega
  rcases this with rfl | rfl | rfl | rfl | rfl | rfl | rfl | rfl | rfl | rfl | rfl | rfl
  · exact q_o_addSubject hR hI a
  · exact q_o_setBlocks hR hI a
  · exact q_o_openClass hR hI a b
  · exact q_o_closeClass hR hI a b
  · exact q_o_addPupil hR hI
  · exact q_o_wish hR hI a b
  · exact q_o_reserve hR hI a b
  · exact q_o_enrol hR hI a
  · exact (q_o_join hR hI hC a b).1
  · exact q_o_quit hR hI a b
  · exact (q_o_change hR hI hC h8 a b c).1
  · exact q_o_arrange hR hI hA
/-- a change made: fault, value and plan -/
theorem q_make (hR : k_P1 (ρ 124) σ) (hOK : k_OK σ) (h8 : ρ 123 8 = 0) {m a b c : Int} (hm : 0 ≤ m ∧ m < 12) : (m_acts ρ m a b c).2 123 8 = e_fault σ m a b c ∧ ((e_fault σ m a b c ≠ 0 ∧ (m_acts ρ m a b c).1 = 0 ∧ (m_acts ρ m a b c).2 124 = ρ 124) ∨ (e_fault σ m a b c = 0 ∧ (m_acts ρ m a b c).1 = f_perf (u_kept σ m a b c) m a b c ∧ k_chg σ m a b c ∧ k_P1 ((m_acts ρ m a b c).2 124) (u_make σ m a b c))) := by
  have h1 := q_op hR hOK h8 (a := a) (b := b) (c := c) hm
  have hpl : k_PlEq (u_kept σ m a b c) σ := (u_keepB_pl (k_OK_fault hOK m a b c).2.2.2.2.2.1).trans (u_fault_pl m a b c)
  have hK : k_OK (u_kept σ m a b c) := k_OK_keep (k_OK_fault hOK m a b c)
  have hRK := k_P1_pl hpl hR
  have h2 := q_op hRK hK h8 (a := a) (b := b) (c := c) hm
  have ee : e_fault (u_kept σ m a b c) m a b c = e_fault σ m a b c := hpl.fault m a b c
  refine ⟨(k_op_e h8 h1).symm, ?_⟩
  rw [ee] at h2
  rcases h1.1 with ⟨g1, g2, g3, g4⟩ | ⟨g1, -⟩
  · exact Or.inl ⟨g1, g2, g4⟩
  · rcases h2.1 with ⟨k1, -⟩ | ⟨k1, k2, k3, k4⟩
    · exact absurd g1 k1
    · refine Or.inr ⟨g1, k2, fun hm10 => ?_, ?_⟩
      · subst hm10
        exact (q_o_change hRK hK.1 hK.2.2.1 h8 a b c).2.2 (ee.trans g1)
      · unfold u_make
        rw [if_pos g1]
        exact k4
end K_R27
