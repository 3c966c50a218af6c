/-! ===== THE MAKING: the planner ===== -/
section K_CP
variable {E : k_E} {M M1 : k_M} {dp d1 pc k n k1 n1 na : Nat} {ls : List (Nat × Value)} {st as : List Value} {sh L T : List k_Sh} {σ σ' τ : Nat → Nat → Int} {Q Q1 : k_Q} {o : Option Value}
def u_chg0 (σ : Nat → Nat → Int) (A : Nat) : Nat → Nat → Int := k_up σ A (k_u1 (σ A) 4 0)
def k_plnS (A : Nat) : List k_Sh := .inr (8, [A + 4, A + 13, A + 17, A + 21, A + 26, A + 27, A + 101, A + 110, A + 119, A + 124, 0, 0, 0, 0]) :: (k_planS (A + 1) ++ k_placS (A + 10) (A + 1) ++ k_chnS (A + 14) (A + 1) ++ k_arrS (A + 18) (A + 1) ++ k_chgS (A + 1) (A + 10) (A + 14) (A + 18) ++ k_hisS (A + 24) 8 ++ k_planS (A + 98) ++ k_planS (A + 107) ++ k_prgS (A + 116) ++ k_sbS)
def u_pln0 (σ : Nat → Nat → Int) (A : Nat) : Nat → Nat → Int := (k_up (k_up (k_up (u_sb0 (u_sb0 (u_plan0 (u_plan0 (g_hi (u_chg0 (u_plan0 σ (A + 1)) (A + 23)) (A + 24) 8) (A + 98)) (A + 107)) (A + 117)) (A + 121)) A (k_u1 ((u_sb0 (u_sb0 (u_plan0 (u_plan0 (g_hi (u_chg0 (u_plan0 σ (A + 1)) (A + 23)) (A + 24) 8) (A + 98)) (A + 107)) (A + 117)) (A + 121)) A) 11 (-1))) A (k_u1 ((k_up (u_sb0 (u_sb0 (u_plan0 (u_plan0 (g_hi (u_chg0 (u_plan0 σ (A + 1)) (A + 23)) (A + 24) 8) (A + 98)) (A + 107)) (A + 117)) (A + 121)) A (k_u1 ((u_sb0 (u_sb0 (u_plan0 (u_plan0 (g_hi (u_chg0 (u_plan0 σ (A + 1)) (A + 23)) (A + 24) 8) (A + 98)) (A + 107)) (A + 117)) (A + 121)) A) 11 (-1))) A) 12 (-1))) A (k_u1 ((k_up (k_up (u_sb0 (u_sb0 (u_plan0 (u_plan0 (g_hi (u_chg0 (u_plan0 σ (A + 1)) (A + 23)) (A + 24) 8) (A + 98)) (A + 107)) (A + 117)) (A + 121)) A (k_u1 ((u_sb0 (u_sb0 (u_plan0 (u_plan0 (g_hi (u_chg0 (u_plan0 σ (A + 1)) (A + 23)) (A + 24) 8) (A + 98)) (A + 107)) (A + 117)) (A + 121)) A) 11 (-1))) A (k_u1 ((k_up (u_sb0 (u_sb0 (u_plan0 (u_plan0 (g_hi (u_chg0 (u_plan0 σ (A + 1)) (A + 23)) (A + 24) 8) (A + 98)) (A + 107)) (A + 117)) (A + 121)) A (k_u1 ((u_sb0 (u_sb0 (u_plan0 (u_plan0 (g_hi (u_chg0 (u_plan0 σ (A + 1)) (A + 23)) (A + 24) 8) (A + 98)) (A + 107)) (A + 117)) (A + 121)) A) 11 (-1))) A) 12 (-1))) A) 13 0))
set_option maxHeartbeats 8000000 in
theorem c_plnInit (hN : L.length < 700000) (hI : k_I (L ++ [.inr (8, [2, 2, 2, 2, 2, 2, 2, 2, 2, 2, 0, 0, 0, 0])]) σ) : k_C E mX7_init 5 [.ref L.length] (L ++ [.inr (8, [2, 2, 2, 2, 2, 2, 2, 2, 2, 2, 0, 0, 0, 0])]) σ 122 1582 (fun r sh' σ' => r = .inl none ∧ sh' = L ++ k_plnS L.length ∧ σ' = u_pln0 σ L.length ∧ k_I sh' σ') := by
  refine k_C_of (ls0 := [(0, .ref L.length)]) rfl pnX7 (fun v hv => k_cat1 rfl hv) (Nat.le_of_ble_eq_true rfl) rfl ?_
  refine k_aload_n dX7_init_0 0 rfl rfl (by omega) ?_
  refine k_objI dX7_init_1 w_122 w_123 k_codeobj (by omega) (Nat.le_of_ble_eq_true rfl) (by omega) ?_
  refine k_aload_n dX7_init_4 0 rfl rfl (by omega) ?_
  have hlN : (L ++ ((.inr (8, [2, 2, 2, 2, 2, 2, 2, 2, 2, 2, 0, 0, 0, 0]) : k_Sh) :: ([]))).length = L.length + 1 := (by (try simp only [k_lenL, List.length_append, List.length_cons, List.length_nil]) <;> omega)
  refine k_newJ (N := 12) (k := 121) (n := 1570) (r := L.length + 1) (T' := [.inr (6, [0, 0, 0, 2, 2, 2, 2, 2, 2, 0, 2, 2])]) (cs := [0, 0, 0, 2, 2, 2, 2, 2, 2, 0, 2, 2]) dX7_init_5 kcX5 w_125 w_126 w_86 rfl (by decide) (by intro j hj; have hj2 : j = 0 ∨ j = 1 ∨ j = 2 ∨ j = 3 ∨ j = 4 ∨ j = 5 ∨ j = 6 ∨ j = 7 ∨ j = 8 ∨ j = 9 ∨ j = 10 ∨ j = 11 := (by omega); rcases hj2 with rfl | rfl | rfl | rfl | rfl | rfl | rfl | rfl | rfl | rfl | rfl | rfl <;> rfl) ⟨by omega, by (try simp only [k_lenL, List.length_append, List.length_cons, List.length_nil]) <;> omega⟩ hI (k_okl_l (Or.inl (by show (L.length : Nat) < _; rw [hlN]; omega)) (k_okl_s (Or.inl (by show (L.length : Nat) < _; rw [hlN]; omega)) k_okl_0)) rfl (by (try simp only [k_lenL, List.length_append, List.length_cons, List.length_nil]) <;> omega) (fun hI => ?_)
  refine k_dup dX7_init_8 rfl ?_
  have hl0 : (L ++ ((.inr (8, [2, 2, 2, 2, 2, 2, 2, 2, 2, 2, 0, 0, 0, 0]) : k_Sh) :: ([]))).length = L.length + 1 := (by (try simp only [k_lenL, List.length_append, List.length_cons, List.length_nil]) <;> omega)
  have hm0 : (L ++ ((.inr (8, [2, 2, 2, 2, 2, 2, 2, 2, 2, 2, 0, 0, 0, 0]) : k_Sh) :: ([.inr (6, [0, 0, 0, 2, 2, 2, 2, 2, 2, 0, 2, 2])]))).length = L.length + 1 + 1 := (by (try simp only [k_lenL, List.length_append, List.length_cons, List.length_nil]) <;> omega)
  have hI0 : k_I ((L ++ ((.inr (8, [2, 2, 2, 2, 2, 2, 2, 2, 2, 2, 0, 0, 0, 0]) : k_Sh) :: ([]))) ++ [.inr (6, [0, 0, 0, 2, 2, 2, 2, 2, 2, 0, 2, 2])]) σ := by rw [List.append_assoc]; exact hI
  refine k_callI (k := 113) (n := 1460) (st := [.ref (L.length + 1), .ref (L.length)]) (as := []) dX7_init_9 oX5_init rfl rfl w_127 w_128 rfl (by omega) rfl (Nat.le_of_ble_eq_true rfl) (by omega) (k_C_eq hl0 (List.append_assoc _ _ _) (c_planInit (by rw [hl0]; omega) hI0)) (fun X s1 s2 h => by cases h.1) (Or.inl (k_okl_l (Or.inl (by show (L.length : Nat) < _; rw [hm0]; omega)) (k_okl_s (Or.inl (by show (L.length + 1 : Nat) < _; rw [hm0]; omega)) (k_okl_s (Or.inl (by show (L.length : Nat) < _; rw [hm0]; omega)) k_okl_0)))) (fun v s1 s2 h => ?_)
  obtain ⟨g1, g2, g3, hI⟩ := h
  try rw [hl0] at g2
  have g2 : s1 = L ++ ((.inr (8, [2, 2, 2, 2, 2, 2, 2, 2, 2, 2, 0, 0, 0, 0]) : k_Sh) :: (k_planS (L.length + 1))) := g2.trans (List.append_assoc _ _ _)
  rw [hl0] at g3
  subst g2
  subst g3
  cases g1
  have hn0 : List.length (k_planS (L.length + 1)) = 9 := (by (try simp only [k_lenL, List.length_append, List.length_cons, List.length_nil, k_planS_l, k_placS_l, k_chnS_l, k_arrS_l, k_chgS_l, k_hisS_l, k_prgS_l, k_sbS_l]) <;> omega)
  generalize hT0 : (k_planS (L.length + 1)) = T0 at hI hn0 ⊢
  clear hl0 hm0 hI0 hlN
  refine k_refF (kf := 0) (cs' := [L.length + 4, 2, 2, 2, 2, 2, 2, 2, 2, 2, 0, 0, 0, 0]) dX7_init_12 kcX7 w_358 (by decide) (Nat.le_of_ble_eq_true rfl) rfl rfl rfl (fun x => rfl) (fun x => rfl) ⟨by omega, by (try simp only [k_lenL, List.length_append, List.length_cons, List.length_nil, hn0]) <;> omega⟩ hI (by (try simp only [k_lenL, List.length_append, List.length_cons, List.length_nil]) <;> omega) rfl (fun hI => ?_)
  refine k_aload_n dX7_init_15 0 rfl rfl (by omega) ?_
  have hlN : (L ++ ((.inr (8, [L.length + 4, 2, 2, 2, 2, 2, 2, 2, 2, 2, 0, 0, 0, 0]) : k_Sh) :: (T0))).length = L.length + 10 := (by (try simp only [k_lenL, List.length_append, List.length_cons, List.length_nil, hn0]) <;> omega)
  refine k_newJ (N := 6) (k := 112) (n := 1454) (r := L.length + 10) (T' := T0 ++ [.inr (5, [2, 2, 2, 2, 0, 0])]) (cs := [2, 2, 2, 2, 0, 0]) dX7_init_16 kcX4 w_187 w_188 w_87 rfl (by decide) (by intro j hj; have hj2 : j = 0 ∨ j = 1 ∨ j = 2 ∨ j = 3 ∨ j = 4 ∨ j = 5 := (by omega); rcases hj2 with rfl | rfl | rfl | rfl | rfl | rfl <;> rfl) ⟨by omega, by (try simp only [k_lenL, List.length_append, List.length_cons, List.length_nil, hn0]) <;> omega⟩ hI (k_okl_l (Or.inl (by show (L.length : Nat) < _; rw [hlN]; omega)) (k_okl_s (Or.inl (by show (L.length : Nat) < _; rw [hlN]; omega)) k_okl_0)) rfl (by (try simp only [k_lenL, List.length_append, List.length_cons, List.length_nil, hn0]) <;> omega) (fun hI => ?_)
  refine k_dup dX7_init_19 rfl ?_
  refine k_aload_n dX7_init_20 0 rfl rfl (by omega) ?_
  refine k_get (kf := 0) (v := .ref (L.length + 1)) dX7_init_21 kcX7 w_358 (by decide) (by omega) (k_get_mid L (T0 ++ [.inr (5, [2, 2, 2, 2, 0, 0])]) (.inr (8, [L.length + 4, 2, 2, 2, 2, 2, 2, 2, 2, 2, 0, 0, 0, 0]))) rfl rfl ?_
  have hl1 : (L ++ ((.inr (8, [L.length + 4, 2, 2, 2, 2, 2, 2, 2, 2, 2, 0, 0, 0, 0]) : k_Sh) :: (T0))).length = L.length + 10 := (by (try simp only [k_lenL, List.length_append, List.length_cons, List.length_nil, hn0]) <;> omega)
  have hm1 : (L ++ ((.inr (8, [L.length + 4, 2, 2, 2, 2, 2, 2, 2, 2, 2, 0, 0, 0, 0]) : k_Sh) :: (T0 ++ [.inr (5, [2, 2, 2, 2, 0, 0])]))).length = L.length + 10 + 1 := (by (try simp only [k_lenL, List.length_append, List.length_cons, List.length_nil, hn0]) <;> omega)
  have hI1 : k_I ((L ++ ((.inr (8, [L.length + 4, 2, 2, 2, 2, 2, 2, 2, 2, 2, 0, 0, 0, 0]) : k_Sh) :: (T0))) ++ [.inr (5, [2, 2, 2, 2, 0, 0])]) (u_plan0 σ (L.length + 1)) := by rw [List.append_assoc]; exact hI
  refine k_callI (k := 109) (n := 1442) (st := [.ref (L.length + 10), .ref (L.length)]) (as := [.ref (L.length + 1)]) dX7_init_24 oX4_init rfl rfl w_189 w_190 rfl (by omega) rfl (Nat.le_of_ble_eq_true rfl) (by omega) (k_C_eq hl1 (List.append_assoc _ _ _) (c_placInit (p := L.length + 1) (by rw [hl1]; omega) (by rw [hl1]; omega) hI1)) (fun X s1 s2 h => by cases h.1) (Or.inl (k_okl_l (Or.inl (by show (L.length : Nat) < _; rw [hm1]; omega)) (k_okl_s (Or.inl (by show (L.length + 10 : Nat) < _; rw [hm1]; omega)) (k_okl_s (Or.inl (by show (L.length : Nat) < _; rw [hm1]; omega)) k_okl_0)))) (fun v s1 s2 h => ?_)
  obtain ⟨g1, g2, g3, hI⟩ := h
  try rw [hl1] at g2
  have g2 : s1 = L ++ ((.inr (8, [L.length + 4, 2, 2, 2, 2, 2, 2, 2, 2, 2, 0, 0, 0, 0]) : k_Sh) :: (T0 ++ k_placS (L.length + 10) (L.length + 1))) := g2.trans (List.append_assoc _ _ _)
  subst g2
  subst g3
  cases g1
  have hn1 : List.length (T0 ++ k_placS (L.length + 10) (L.length + 1)) = 13 := (by (try simp only [k_lenL, List.length_append, List.length_cons, List.length_nil, hn0, k_planS_l, k_placS_l, k_chnS_l, k_arrS_l, k_chgS_l, k_hisS_l, k_prgS_l, k_sbS_l]) <;> omega)
  generalize hT1 : (T0 ++ k_placS (L.length + 10) (L.length + 1)) = T1 at hI hn1 ⊢
  clear hl1 hm1 hI1 hlN hn0
  refine k_refF (kf := 1) (cs' := [L.length + 4, L.length + 13, 2, 2, 2, 2, 2, 2, 2, 2, 0, 0, 0, 0]) dX7_init_27 kcX7 w_359 (by decide) (Nat.le_of_ble_eq_true rfl) rfl rfl rfl (fun x => rfl) (fun x => rfl) ⟨by omega, by (try simp only [k_lenL, List.length_append, List.length_cons, List.length_nil, hn1]) <;> omega⟩ hI (by (try simp only [k_lenL, List.length_append, List.length_cons, List.length_nil]) <;> omega) rfl (fun hI => ?_)
  refine k_aload_n dX7_init_30 0 rfl rfl (by omega) ?_
  have hlN : (L ++ ((.inr (8, [L.length + 4, L.length + 13, 2, 2, 2, 2, 2, 2, 2, 2, 0, 0, 0, 0]) : k_Sh) :: (T1))).length = L.length + 14 := (by (try simp only [k_lenL, List.length_append, List.length_cons, List.length_nil, hn1]) <;> omega)
  refine k_newJ (N := 4) (k := 108) (n := 1438) (r := L.length + 14) (T' := T1 ++ [.inr (2, [2, 2, 2, 2])]) (cs := [2, 2, 2, 2]) dX7_init_31 kcX1 w_212 w_213 w_88 rfl (by decide) (by intro j hj; have hj2 : j = 0 ∨ j = 1 ∨ j = 2 ∨ j = 3 := (by omega); rcases hj2 with rfl | rfl | rfl | rfl <;> rfl) ⟨by omega, by (try simp only [k_lenL, List.length_append, List.length_cons, List.length_nil, hn1]) <;> omega⟩ hI (k_okl_l (Or.inl (by show (L.length : Nat) < _; rw [hlN]; omega)) (k_okl_s (Or.inl (by show (L.length : Nat) < _; rw [hlN]; omega)) k_okl_0)) rfl (by (try simp only [k_lenL, List.length_append, List.length_cons, List.length_nil, hn1]) <;> omega) (fun hI => ?_)
  refine k_dup dX7_init_34 rfl ?_
  refine k_aload_n dX7_init_35 0 rfl rfl (by omega) ?_
  refine k_get (kf := 0) (v := .ref (L.length + 1)) dX7_init_36 kcX7 w_358 (by decide) (by omega) (k_get_mid L (T1 ++ [.inr (2, [2, 2, 2, 2])]) (.inr (8, [L.length + 4, L.length + 13, 2, 2, 2, 2, 2, 2, 2, 2, 0, 0, 0, 0]))) rfl rfl ?_
  have hl2 : (L ++ ((.inr (8, [L.length + 4, L.length + 13, 2, 2, 2, 2, 2, 2, 2, 2, 0, 0, 0, 0]) : k_Sh) :: (T1))).length = L.length + 14 := (by (try simp only [k_lenL, List.length_append, List.length_cons, List.length_nil, hn1]) <;> omega)
  have hm2 : (L ++ ((.inr (8, [L.length + 4, L.length + 13, 2, 2, 2, 2, 2, 2, 2, 2, 0, 0, 0, 0]) : k_Sh) :: (T1 ++ [.inr (2, [2, 2, 2, 2])]))).length = L.length + 14 + 1 := (by (try simp only [k_lenL, List.length_append, List.length_cons, List.length_nil, hn1]) <;> omega)
  have hI2 : k_I ((L ++ ((.inr (8, [L.length + 4, L.length + 13, 2, 2, 2, 2, 2, 2, 2, 2, 0, 0, 0, 0]) : k_Sh) :: (T1))) ++ [.inr (2, [2, 2, 2, 2])]) (u_plan0 σ (L.length + 1)) := by rw [List.append_assoc]; exact hI
  refine k_callI (k := 105) (n := 1426) (st := [.ref (L.length + 14), .ref (L.length)]) (as := [.ref (L.length + 1)]) dX7_init_39 oX1_init rfl rfl w_214 w_215 rfl (by omega) rfl (Nat.le_of_ble_eq_true rfl) (by omega) (k_C_eq hl2 (List.append_assoc _ _ _) (c_chnInit (p := L.length + 1) (by rw [hl2]; omega) (by rw [hl2]; omega) hI2)) (fun X s1 s2 h => by cases h.1) (Or.inl (k_okl_l (Or.inl (by show (L.length : Nat) < _; rw [hm2]; omega)) (k_okl_s (Or.inl (by show (L.length + 14 : Nat) < _; rw [hm2]; omega)) (k_okl_s (Or.inl (by show (L.length : Nat) < _; rw [hm2]; omega)) k_okl_0)))) (fun v s1 s2 h => ?_)
  obtain ⟨g1, g2, g3, hI⟩ := h
  try rw [hl2] at g2
  have g2 : s1 = L ++ ((.inr (8, [L.length + 4, L.length + 13, 2, 2, 2, 2, 2, 2, 2, 2, 0, 0, 0, 0]) : k_Sh) :: (T1 ++ k_chnS (L.length + 14) (L.length + 1))) := g2.trans (List.append_assoc _ _ _)
  subst g2
  subst g3
  cases g1
  have hn2 : List.length (T1 ++ k_chnS (L.length + 14) (L.length + 1)) = 17 := (by (try simp only [k_lenL, List.length_append, List.length_cons, List.length_nil, hn1, k_planS_l, k_placS_l, k_chnS_l, k_arrS_l, k_chgS_l, k_hisS_l, k_prgS_l, k_sbS_l]) <;> omega)
  generalize hT2 : (T1 ++ k_chnS (L.length + 14) (L.length + 1)) = T2 at hI hn2 ⊢
  clear hl2 hm2 hI2 hlN hn1
  refine k_refF (kf := 2) (cs' := [L.length + 4, L.length + 13, L.length + 17, 2, 2, 2, 2, 2, 2, 2, 0, 0, 0, 0]) dX7_init_42 kcX7 w_360 (by decide) (Nat.le_of_ble_eq_true rfl) rfl rfl rfl (fun x => rfl) (fun x => rfl) ⟨by omega, by (try simp only [k_lenL, List.length_append, List.length_cons, List.length_nil, hn2]) <;> omega⟩ hI (by (try simp only [k_lenL, List.length_append, List.length_cons, List.length_nil]) <;> omega) rfl (fun hI => ?_)
  refine k_aload_n dX7_init_45 0 rfl rfl (by omega) ?_
  have hlN : (L ++ ((.inr (8, [L.length + 4, L.length + 13, L.length + 17, 2, 2, 2, 2, 2, 2, 2, 0, 0, 0, 0]) : k_Sh) :: (T2))).length = L.length + 18 := (by (try simp only [k_lenL, List.length_append, List.length_cons, List.length_nil, hn2]) <;> omega)
  refine k_newJ (N := 6) (k := 104) (n := 1420) (r := L.length + 18) (T' := T2 ++ [.inr (1, [2, 2, 2, 2, 2, 0])]) (cs := [2, 2, 2, 2, 2, 0]) dX7_init_46 kcX0 w_231 w_232 w_89 rfl (by decide) (by intro j hj; have hj2 : j = 0 ∨ j = 1 ∨ j = 2 ∨ j = 3 ∨ j = 4 ∨ j = 5 := (by omega); rcases hj2 with rfl | rfl | rfl | rfl | rfl | rfl <;> rfl) ⟨by omega, by (try simp only [k_lenL, List.length_append, List.length_cons, List.length_nil, hn2]) <;> omega⟩ hI (k_okl_l (Or.inl (by show (L.length : Nat) < _; rw [hlN]; omega)) (k_okl_s (Or.inl (by show (L.length : Nat) < _; rw [hlN]; omega)) k_okl_0)) rfl (by (try simp only [k_lenL, List.length_append, List.length_cons, List.length_nil, hn2]) <;> omega) (fun hI => ?_)
  refine k_dup dX7_init_49 rfl ?_
  refine k_aload_n dX7_init_50 0 rfl rfl (by omega) ?_
  refine k_get (kf := 0) (v := .ref (L.length + 1)) dX7_init_51 kcX7 w_358 (by decide) (by omega) (k_get_mid L (T2 ++ [.inr (1, [2, 2, 2, 2, 2, 0])]) (.inr (8, [L.length + 4, L.length + 13, L.length + 17, 2, 2, 2, 2, 2, 2, 2, 0, 0, 0, 0]))) rfl rfl ?_
  have hl3 : (L ++ ((.inr (8, [L.length + 4, L.length + 13, L.length + 17, 2, 2, 2, 2, 2, 2, 2, 0, 0, 0, 0]) : k_Sh) :: (T2))).length = L.length + 18 := (by (try simp only [k_lenL, List.length_append, List.length_cons, List.length_nil, hn2]) <;> omega)
  have hm3 : (L ++ ((.inr (8, [L.length + 4, L.length + 13, L.length + 17, 2, 2, 2, 2, 2, 2, 2, 0, 0, 0, 0]) : k_Sh) :: (T2 ++ [.inr (1, [2, 2, 2, 2, 2, 0])]))).length = L.length + 18 + 1 := (by (try simp only [k_lenL, List.length_append, List.length_cons, List.length_nil, hn2]) <;> omega)
  have hI3 : k_I ((L ++ ((.inr (8, [L.length + 4, L.length + 13, L.length + 17, 2, 2, 2, 2, 2, 2, 2, 0, 0, 0, 0]) : k_Sh) :: (T2))) ++ [.inr (1, [2, 2, 2, 2, 2, 0])]) (u_plan0 σ (L.length + 1)) := by rw [List.append_assoc]; exact hI
  refine k_callI (k := 100) (n := 1329) (st := [.ref (L.length + 18), .ref (L.length)]) (as := [.ref (L.length + 1)]) dX7_init_54 oX0_init rfl rfl w_233 w_234 rfl (by omega) rfl (Nat.le_of_ble_eq_true rfl) (by omega) (k_C_eq hl3 (List.append_assoc _ _ _) (c_arrInit (p := L.length + 1) (by rw [hl3]; omega) (by rw [hl3]; omega) hI3)) (fun X s1 s2 h => by cases h.1) (Or.inl (k_okl_l (Or.inl (by show (L.length : Nat) < _; rw [hm3]; omega)) (k_okl_s (Or.inl (by show (L.length + 18 : Nat) < _; rw [hm3]; omega)) (k_okl_s (Or.inl (by show (L.length : Nat) < _; rw [hm3]; omega)) k_okl_0)))) (fun v s1 s2 h => ?_)
  obtain ⟨g1, g2, g3, hI⟩ := h
  try rw [hl3] at g2
  have g2 : s1 = L ++ ((.inr (8, [L.length + 4, L.length + 13, L.length + 17, 2, 2, 2, 2, 2, 2, 2, 0, 0, 0, 0]) : k_Sh) :: (T2 ++ k_arrS (L.length + 18) (L.length + 1))) := g2.trans (List.append_assoc _ _ _)
  subst g2
  subst g3
  cases g1
  have hn3 : List.length (T2 ++ k_arrS (L.length + 18) (L.length + 1)) = 22 := (by (try simp only [k_lenL, List.length_append, List.length_cons, List.length_nil, hn2, k_planS_l, k_placS_l, k_chnS_l, k_arrS_l, k_chgS_l, k_hisS_l, k_prgS_l, k_sbS_l]) <;> omega)
  generalize hT3 : (T2 ++ k_arrS (L.length + 18) (L.length + 1)) = T3 at hI hn3 ⊢
  clear hl3 hm3 hI3 hlN hn2
  refine k_refF (kf := 3) (cs' := [L.length + 4, L.length + 13, L.length + 17, L.length + 21, 2, 2, 2, 2, 2, 2, 0, 0, 0, 0]) dX7_init_57 kcX7 w_361 (by decide) (Nat.le_of_ble_eq_true rfl) rfl rfl rfl (fun x => rfl) (fun x => rfl) ⟨by omega, by (try simp only [k_lenL, List.length_append, List.length_cons, List.length_nil, hn3]) <;> omega⟩ hI (by (try simp only [k_lenL, List.length_append, List.length_cons, List.length_nil]) <;> omega) rfl (fun hI => ?_)
  refine k_aload_n dX7_init_60 0 rfl rfl (by omega) ?_
  have hlN : (L ++ ((.inr (8, [L.length + 4, L.length + 13, L.length + 17, L.length + 21, 2, 2, 2, 2, 2, 2, 0, 0, 0, 0]) : k_Sh) :: (T3))).length = L.length + 23 := (by (try simp only [k_lenL, List.length_append, List.length_cons, List.length_nil, hn3]) <;> omega)
  refine k_newJ (N := 5) (k := 99) (n := 1324) (r := L.length + 23) (T' := T3 ++ [.inr (3, [2, 2, 2, 2, 0])]) (cs := [2, 2, 2, 2, 0]) dX7_init_61 kcX2 w_256 w_257 w_90 rfl (by decide) (by intro j hj; have hj2 : j = 0 ∨ j = 1 ∨ j = 2 ∨ j = 3 ∨ j = 4 := (by omega); rcases hj2 with rfl | rfl | rfl | rfl | rfl <;> rfl) ⟨by omega, by (try simp only [k_lenL, List.length_append, List.length_cons, List.length_nil, hn3]) <;> omega⟩ hI (k_okl_l (Or.inl (by show (L.length : Nat) < _; rw [hlN]; omega)) (k_okl_s (Or.inl (by show (L.length : Nat) < _; rw [hlN]; omega)) k_okl_0)) rfl (by (try simp only [k_lenL, List.length_append, List.length_cons, List.length_nil, hn3]) <;> omega) (fun hI => ?_)
  refine k_dup dX7_init_64 rfl ?_
  refine k_aload_n dX7_init_65 0 rfl rfl (by omega) ?_
  refine k_get (kf := 0) (v := .ref (L.length + 1)) dX7_init_66 kcX7 w_358 (by decide) (by omega) (k_get_mid L (T3 ++ [.inr (3, [2, 2, 2, 2, 0])]) (.inr (8, [L.length + 4, L.length + 13, L.length + 17, L.length + 21, 2, 2, 2, 2, 2, 2, 0, 0, 0, 0]))) rfl rfl ?_
  refine k_aload_n dX7_init_69 0 rfl rfl (by omega) ?_
  refine k_get (kf := 1) (v := .ref (L.length + 10)) dX7_init_70 kcX7 w_359 (by decide) (by omega) (k_get_mid L (T3 ++ [.inr (3, [2, 2, 2, 2, 0])]) (.inr (8, [L.length + 4, L.length + 13, L.length + 17, L.length + 21, 2, 2, 2, 2, 2, 2, 0, 0, 0, 0]))) rfl rfl ?_
  refine k_aload_n dX7_init_73 0 rfl rfl (by omega) ?_
  refine k_get (kf := 2) (v := .ref (L.length + 14)) dX7_init_74 kcX7 w_360 (by decide) (by omega) (k_get_mid L (T3 ++ [.inr (3, [2, 2, 2, 2, 0])]) (.inr (8, [L.length + 4, L.length + 13, L.length + 17, L.length + 21, 2, 2, 2, 2, 2, 2, 0, 0, 0, 0]))) rfl rfl ?_
  refine k_aload_n dX7_init_77 0 rfl rfl (by omega) ?_
  refine k_get (kf := 3) (v := .ref (L.length + 18)) dX7_init_78 kcX7 w_361 (by decide) (by omega) (k_get_mid L (T3 ++ [.inr (3, [2, 2, 2, 2, 0])]) (.inr (8, [L.length + 4, L.length + 13, L.length + 17, L.length + 21, 2, 2, 2, 2, 2, 2, 0, 0, 0, 0]))) rfl rfl ?_
  have hl4 : (L ++ ((.inr (8, [L.length + 4, L.length + 13, L.length + 17, L.length + 21, 2, 2, 2, 2, 2, 2, 0, 0, 0, 0]) : k_Sh) :: (T3))).length = L.length + 23 := (by (try simp only [k_lenL, List.length_append, List.length_cons, List.length_nil, hn3]) <;> omega)
  have hm4 : (L ++ ((.inr (8, [L.length + 4, L.length + 13, L.length + 17, L.length + 21, 2, 2, 2, 2, 2, 2, 0, 0, 0, 0]) : k_Sh) :: (T3 ++ [.inr (3, [2, 2, 2, 2, 0])]))).length = L.length + 23 + 1 := (by (try simp only [k_lenL, List.length_append, List.length_cons, List.length_nil, hn3]) <;> omega)
  have hI4 : k_I ((L ++ ((.inr (8, [L.length + 4, L.length + 13, L.length + 17, L.length + 21, 2, 2, 2, 2, 2, 2, 0, 0, 0, 0]) : k_Sh) :: (T3))) ++ [.inr (3, [2, 2, 2, 2, 0])]) (u_plan0 σ (L.length + 1)) := by rw [List.append_assoc]; exact hI
  refine k_callI (k := 99) (n := 1324) (st := [.ref (L.length + 23), .ref (L.length)]) (as := [.ref (L.length + 1), .ref (L.length + 10), .ref (L.length + 14), .ref (L.length + 18)]) dX7_init_81 oX2_init rfl rfl w_258 w_259 rfl (by omega) rfl (Nat.le_of_ble_eq_true rfl) (by omega) (k_C_eq hl4 (List.append_assoc _ _ _) (c_chgInit (p := L.length + 1) (q := L.length + 10) (t := L.length + 14) (u := L.length + 18) (by rw [hl4]; omega) (by rw [hl4]; omega) (by rw [hl4]; omega) (by rw [hl4]; omega) (by rw [hl4]; omega) hI4)) (fun X s1 s2 h => by cases h.1) (Or.inl (k_okl_l (Or.inl (by show (L.length : Nat) < _; rw [hm4]; omega)) (k_okl_s (Or.inl (by show (L.length + 23 : Nat) < _; rw [hm4]; omega)) (k_okl_s (Or.inl (by show (L.length : Nat) < _; rw [hm4]; omega)) k_okl_0)))) (fun v s1 s2 h => ?_)
  obtain ⟨g1, g2, g3, hI⟩ := h
  try rw [hl4] at g2
  have g2 : s1 = L ++ ((.inr (8, [L.length + 4, L.length + 13, L.length + 17, L.length + 21, 2, 2, 2, 2, 2, 2, 0, 0, 0, 0]) : k_Sh) :: (T3 ++ k_chgS (L.length + 1) (L.length + 10) (L.length + 14) (L.length + 18))) := g2.trans (List.append_assoc _ _ _)
  rw [hl4] at g3
  subst g2
  subst g3
  cases g1
  have hn4 : List.length (T3 ++ k_chgS (L.length + 1) (L.length + 10) (L.length + 14) (L.length + 18)) = 23 := (by (try simp only [k_lenL, List.length_append, List.length_cons, List.length_nil, hn3, k_planS_l, k_placS_l, k_chnS_l, k_arrS_l, k_chgS_l, k_hisS_l, k_prgS_l, k_sbS_l]) <;> omega)
  generalize hT4 : (T3 ++ k_chgS (L.length + 1) (L.length + 10) (L.length + 14) (L.length + 18)) = T4 at hI hn4 ⊢
  clear hl4 hm4 hI4 hlN hn3
  refine k_refF (kf := 4) (cs' := [L.length + 4, L.length + 13, L.length + 17, L.length + 21, L.length + 26, 2, 2, 2, 2, 2, 0, 0, 0, 0]) dX7_init_84 kcX7 w_362 (by decide) (Nat.le_of_ble_eq_true rfl) rfl rfl rfl (fun x => rfl) (fun x => rfl) ⟨by omega, by (try simp only [k_lenL, List.length_append, List.length_cons, List.length_nil, hn4]) <;> omega⟩ hI (by (try simp only [k_lenL, List.length_append, List.length_cons, List.length_nil]) <;> omega) rfl (fun hI => ?_)
  refine k_aload_n dX7_init_87 0 rfl rfl (by omega) ?_
  have hlN : (L ++ ((.inr (8, [L.length + 4, L.length + 13, L.length + 17, L.length + 21, L.length + 26, 2, 2, 2, 2, 2, 0, 0, 0, 0]) : k_Sh) :: (T4))).length = L.length + 24 := (by (try simp only [k_lenL, List.length_append, List.length_cons, List.length_nil, hn4]) <;> omega)
  refine k_newJ (N := 3) (k := 98) (n := 1321) (r := L.length + 24) (T' := T4 ++ [.inr (4, [2, 0, 0])]) (cs := [2, 0, 0]) dX7_init_88 kcX3 w_279 w_280 w_91 rfl (by decide) (by intro j hj; have hj2 : j = 0 ∨ j = 1 ∨ j = 2 := (by omega); rcases hj2 with rfl | rfl | rfl <;> rfl) ⟨by omega, by (try simp only [k_lenL, List.length_append, List.length_cons, List.length_nil, hn4]) <;> omega⟩ hI (k_okl_l (Or.inl (by show (L.length : Nat) < _; rw [hlN]; omega)) (k_okl_s (Or.inl (by show (L.length : Nat) < _; rw [hlN]; omega)) k_okl_0)) rfl (by (try simp only [k_lenL, List.length_append, List.length_cons, List.length_nil, hn4]) <;> omega) (fun hI => ?_)
  refine k_dup dX7_init_91 rfl ?_
  have hl5 : (L ++ ((.inr (8, [L.length + 4, L.length + 13, L.length + 17, L.length + 21, L.length + 26, 2, 2, 2, 2, 2, 0, 0, 0, 0]) : k_Sh) :: (T4))).length = L.length + 24 := (by (try simp only [k_lenL, List.length_append, List.length_cons, List.length_nil, hn4]) <;> omega)
  have hm5 : (L ++ ((.inr (8, [L.length + 4, L.length + 13, L.length + 17, L.length + 21, L.length + 26, 2, 2, 2, 2, 2, 0, 0, 0, 0]) : k_Sh) :: (T4 ++ [.inr (4, [2, 0, 0])]))).length = L.length + 24 + 1 := (by (try simp only [k_lenL, List.length_append, List.length_cons, List.length_nil, hn4]) <;> omega)
  have hI5 : k_I ((L ++ ((.inr (8, [L.length + 4, L.length + 13, L.length + 17, L.length + 21, L.length + 26, 2, 2, 2, 2, 2, 0, 0, 0, 0]) : k_Sh) :: (T4))) ++ [.inr (4, [2, 0, 0])]) (u_chg0 (u_plan0 σ (L.length + 1)) (L.length + 23)) := by rw [List.append_assoc]; exact hI
  refine k_callI (k := 25) (n := 337) (st := [.ref (L.length + 24), .ref (L.length)]) (as := []) dX7_init_92 oX3_init rfl rfl w_281 w_282 rfl (by omega) rfl (Nat.le_of_ble_eq_true rfl) (by omega) (k_C_eq hl5 (List.append_assoc _ _ _) (c_hisInit (by rw [hl5]; omega) hI5)) (fun X s1 s2 h => by cases h.1) (Or.inl (k_okl_l (Or.inl (by show (L.length : Nat) < _; rw [hm5]; omega)) (k_okl_s (Or.inl (by show (L.length + 24 : Nat) < _; rw [hm5]; omega)) (k_okl_s (Or.inl (by show (L.length : Nat) < _; rw [hm5]; omega)) k_okl_0)))) (fun v s1 s2 h => ?_)
  obtain ⟨g1, g2, g3, hI⟩ := h
  try rw [hl5] at g2
  have g2 : s1 = L ++ ((.inr (8, [L.length + 4, L.length + 13, L.length + 17, L.length + 21, L.length + 26, 2, 2, 2, 2, 2, 0, 0, 0, 0]) : k_Sh) :: (T4 ++ k_hisS (L.length + 24) 8)) := g2.trans (List.append_assoc _ _ _)
  rw [hl5] at g3
  subst g2
  subst g3
  cases g1
  have hn5 : List.length (T4 ++ k_hisS (L.length + 24) 8) = 97 := (by (try simp only [k_lenL, List.length_append, List.length_cons, List.length_nil, hn4, k_planS_l, k_placS_l, k_chnS_l, k_arrS_l, k_chgS_l, k_hisS_l, k_prgS_l, k_sbS_l]) <;> omega)
  generalize hT5 : (T4 ++ k_hisS (L.length + 24) 8) = T5 at hI hn5 ⊢
  clear hl5 hm5 hI5 hlN hn4
  refine k_refF (kf := 5) (cs' := [L.length + 4, L.length + 13, L.length + 17, L.length + 21, L.length + 26, L.length + 27, 2, 2, 2, 2, 0, 0, 0, 0]) dX7_init_95 kcX7 w_363 (by decide) (Nat.le_of_ble_eq_true rfl) rfl rfl rfl (fun x => rfl) (fun x => rfl) ⟨by omega, by (try simp only [k_lenL, List.length_append, List.length_cons, List.length_nil, hn5]) <;> omega⟩ hI (by (try simp only [k_lenL, List.length_append, List.length_cons, List.length_nil]) <;> omega) rfl (fun hI => ?_)
  refine k_aload_n dX7_init_98 0 rfl rfl (by omega) ?_
  have hlN : (L ++ ((.inr (8, [L.length + 4, L.length + 13, L.length + 17, L.length + 21, L.length + 26, L.length + 27, 2, 2, 2, 2, 0, 0, 0, 0]) : k_Sh) :: (T5))).length = L.length + 98 := (by (try simp only [k_lenL, List.length_append, List.length_cons, List.length_nil, hn5]) <;> omega)
  refine k_newJ (N := 12) (k := 24) (n := 325) (r := L.length + 98) (T' := T5 ++ [.inr (6, [0, 0, 0, 2, 2, 2, 2, 2, 2, 0, 2, 2])]) (cs := [0, 0, 0, 2, 2, 2, 2, 2, 2, 0, 2, 2]) dX7_init_99 kcX5 w_125 w_126 w_86 rfl (by decide) (by intro j hj; have hj2 : j = 0 ∨ j = 1 ∨ j = 2 ∨ j = 3 ∨ j = 4 ∨ j = 5 ∨ j = 6 ∨ j = 7 ∨ j = 8 ∨ j = 9 ∨ j = 10 ∨ j = 11 := (by omega); rcases hj2 with rfl | rfl | rfl | rfl | rfl | rfl | rfl | rfl | rfl | rfl | rfl | rfl <;> rfl) ⟨by omega, by (try simp only [k_lenL, List.length_append, List.length_cons, List.length_nil, hn5]) <;> omega⟩ hI (k_okl_l (Or.inl (by show (L.length : Nat) < _; rw [hlN]; omega)) (k_okl_s (Or.inl (by show (L.length : Nat) < _; rw [hlN]; omega)) k_okl_0)) rfl (by (try simp only [k_lenL, List.length_append, List.length_cons, List.length_nil, hn5]) <;> omega) (fun hI => ?_)
  refine k_dup dX7_init_102 rfl ?_
  have hl6 : (L ++ ((.inr (8, [L.length + 4, L.length + 13, L.length + 17, L.length + 21, L.length + 26, L.length + 27, 2, 2, 2, 2, 0, 0, 0, 0]) : k_Sh) :: (T5))).length = L.length + 98 := (by (try simp only [k_lenL, List.length_append, List.length_cons, List.length_nil, hn5]) <;> omega)
  have hm6 : (L ++ ((.inr (8, [L.length + 4, L.length + 13, L.length + 17, L.length + 21, L.length + 26, L.length + 27, 2, 2, 2, 2, 0, 0, 0, 0]) : k_Sh) :: (T5 ++ [.inr (6, [0, 0, 0, 2, 2, 2, 2, 2, 2, 0, 2, 2])]))).length = L.length + 98 + 1 := (by (try simp only [k_lenL, List.length_append, List.length_cons, List.length_nil, hn5]) <;> omega)
  have hI6 : k_I ((L ++ ((.inr (8, [L.length + 4, L.length + 13, L.length + 17, L.length + 21, L.length + 26, L.length + 27, 2, 2, 2, 2, 0, 0, 0, 0]) : k_Sh) :: (T5))) ++ [.inr (6, [0, 0, 0, 2, 2, 2, 2, 2, 2, 0, 2, 2])]) (g_hi (u_chg0 (u_plan0 σ (L.length + 1)) (L.length + 23)) (L.length + 24) 8) := by rw [List.append_assoc]; exact hI
  refine k_callI (k := 16) (n := 215) (st := [.ref (L.length + 98), .ref (L.length)]) (as := []) dX7_init_103 oX5_init rfl rfl w_127 w_128 rfl (by omega) rfl (Nat.le_of_ble_eq_true rfl) (by omega) (k_C_eq hl6 (List.append_assoc _ _ _) (c_planInit (by rw [hl6]; omega) hI6)) (fun X s1 s2 h => by cases h.1) (Or.inl (k_okl_l (Or.inl (by show (L.length : Nat) < _; rw [hm6]; omega)) (k_okl_s (Or.inl (by show (L.length + 98 : Nat) < _; rw [hm6]; omega)) (k_okl_s (Or.inl (by show (L.length : Nat) < _; rw [hm6]; omega)) k_okl_0)))) (fun v s1 s2 h => ?_)
  obtain ⟨g1, g2, g3, hI⟩ := h
  try rw [hl6] at g2
  have g2 : s1 = L ++ ((.inr (8, [L.length + 4, L.length + 13, L.length + 17, L.length + 21, L.length + 26, L.length + 27, 2, 2, 2, 2, 0, 0, 0, 0]) : k_Sh) :: (T5 ++ k_planS (L.length + 98))) := g2.trans (List.append_assoc _ _ _)
  rw [hl6] at g3
  subst g2
  subst g3
  cases g1
  have hn6 : List.length (T5 ++ k_planS (L.length + 98)) = 106 := (by (try simp only [k_lenL, List.length_append, List.length_cons, List.length_nil, hn5, k_planS_l, k_placS_l, k_chnS_l, k_arrS_l, k_chgS_l, k_hisS_l, k_prgS_l, k_sbS_l]) <;> omega)
  generalize hT6 : (T5 ++ k_planS (L.length + 98)) = T6 at hI hn6 ⊢
  clear hl6 hm6 hI6 hlN hn5
  refine k_refF (kf := 6) (cs' := [L.length + 4, L.length + 13, L.length + 17, L.length + 21, L.length + 26, L.length + 27, L.length + 101, 2, 2, 2, 0, 0, 0, 0]) dX7_init_106 kcX7 w_364 (by decide) (Nat.le_of_ble_eq_true rfl) rfl rfl rfl (fun x => rfl) (fun x => rfl) ⟨by omega, by (try simp only [k_lenL, List.length_append, List.length_cons, List.length_nil, hn6]) <;> omega⟩ hI (by (try simp only [k_lenL, List.length_append, List.length_cons, List.length_nil]) <;> omega) rfl (fun hI => ?_)
  refine k_aload_n dX7_init_109 0 rfl rfl (by omega) ?_
  have hlN : (L ++ ((.inr (8, [L.length + 4, L.length + 13, L.length + 17, L.length + 21, L.length + 26, L.length + 27, L.length + 101, 2, 2, 2, 0, 0, 0, 0]) : k_Sh) :: (T6))).length = L.length + 107 := (by (try simp only [k_lenL, List.length_append, List.length_cons, List.length_nil, hn6]) <;> omega)
  refine k_newJ (N := 12) (k := 15) (n := 203) (r := L.length + 107) (T' := T6 ++ [.inr (6, [0, 0, 0, 2, 2, 2, 2, 2, 2, 0, 2, 2])]) (cs := [0, 0, 0, 2, 2, 2, 2, 2, 2, 0, 2, 2]) dX7_init_110 kcX5 w_125 w_126 w_86 rfl (by decide) (by intro j hj; have hj2 : j = 0 ∨ j = 1 ∨ j = 2 ∨ j = 3 ∨ j = 4 ∨ j = 5 ∨ j = 6 ∨ j = 7 ∨ j = 8 ∨ j = 9 ∨ j = 10 ∨ j = 11 := (by omega); rcases hj2 with rfl | rfl | rfl | rfl | rfl | rfl | rfl | rfl | rfl | rfl | rfl | rfl <;> rfl) ⟨by omega, by (try simp only [k_lenL, List.length_append, List.length_cons, List.length_nil, hn6]) <;> omega⟩ hI (k_okl_l (Or.inl (by show (L.length : Nat) < _; rw [hlN]; omega)) (k_okl_s (Or.inl (by show (L.length : Nat) < _; rw [hlN]; omega)) k_okl_0)) rfl (by (try simp only [k_lenL, List.length_append, List.length_cons, List.length_nil, hn6]) <;> omega) (fun hI => ?_)
  refine k_dup dX7_init_113 rfl ?_
  have hl7 : (L ++ ((.inr (8, [L.length + 4, L.length + 13, L.length + 17, L.length + 21, L.length + 26, L.length + 27, L.length + 101, 2, 2, 2, 0, 0, 0, 0]) : k_Sh) :: (T6))).length = L.length + 107 := (by (try simp only [k_lenL, List.length_append, List.length_cons, List.length_nil, hn6]) <;> omega)
  have hm7 : (L ++ ((.inr (8, [L.length + 4, L.length + 13, L.length + 17, L.length + 21, L.length + 26, L.length + 27, L.length + 101, 2, 2, 2, 0, 0, 0, 0]) : k_Sh) :: (T6 ++ [.inr (6, [0, 0, 0, 2, 2, 2, 2, 2, 2, 0, 2, 2])]))).length = L.length + 107 + 1 := (by (try simp only [k_lenL, List.length_append, List.length_cons, List.length_nil, hn6]) <;> omega)
  have hI7 : k_I ((L ++ ((.inr (8, [L.length + 4, L.length + 13, L.length + 17, L.length + 21, L.length + 26, L.length + 27, L.length + 101, 2, 2, 2, 0, 0, 0, 0]) : k_Sh) :: (T6))) ++ [.inr (6, [0, 0, 0, 2, 2, 2, 2, 2, 2, 0, 2, 2])]) (u_plan0 (g_hi (u_chg0 (u_plan0 σ (L.length + 1)) (L.length + 23)) (L.length + 24) 8) (L.length + 98)) := by rw [List.append_assoc]; exact hI
  refine k_callI (k := 7) (n := 93) (st := [.ref (L.length + 107), .ref (L.length)]) (as := []) dX7_init_114 oX5_init rfl rfl w_127 w_128 rfl (by omega) rfl (Nat.le_of_ble_eq_true rfl) (by omega) (k_C_eq hl7 (List.append_assoc _ _ _) (c_planInit (by rw [hl7]; omega) hI7)) (fun X s1 s2 h => by cases h.1) (Or.inl (k_okl_l (Or.inl (by show (L.length : Nat) < _; rw [hm7]; omega)) (k_okl_s (Or.inl (by show (L.length + 107 : Nat) < _; rw [hm7]; omega)) (k_okl_s (Or.inl (by show (L.length : Nat) < _; rw [hm7]; omega)) k_okl_0)))) (fun v s1 s2 h => ?_)
  obtain ⟨g1, g2, g3, hI⟩ := h
  try rw [hl7] at g2
  have g2 : s1 = L ++ ((.inr (8, [L.length + 4, L.length + 13, L.length + 17, L.length + 21, L.length + 26, L.length + 27, L.length + 101, 2, 2, 2, 0, 0, 0, 0]) : k_Sh) :: (T6 ++ k_planS (L.length + 107))) := g2.trans (List.append_assoc _ _ _)
  rw [hl7] at g3
  subst g2
  subst g3
  cases g1
  have hn7 : List.length (T6 ++ k_planS (L.length + 107)) = 115 := (by (try simp only [k_lenL, List.length_append, List.length_cons, List.length_nil, hn6, k_planS_l, k_placS_l, k_chnS_l, k_arrS_l, k_chgS_l, k_hisS_l, k_prgS_l, k_sbS_l]) <;> omega)
  generalize hT7 : (T6 ++ k_planS (L.length + 107)) = T7 at hI hn7 ⊢
  clear hl7 hm7 hI7 hlN hn6
  refine k_refF (kf := 7) (cs' := [L.length + 4, L.length + 13, L.length + 17, L.length + 21, L.length + 26, L.length + 27, L.length + 101, L.length + 110, 2, 2, 0, 0, 0, 0]) dX7_init_117 kcX7 w_365 (by decide) (Nat.le_of_ble_eq_true rfl) rfl rfl rfl (fun x => rfl) (fun x => rfl) ⟨by omega, by (try simp only [k_lenL, List.length_append, List.length_cons, List.length_nil, hn7]) <;> omega⟩ hI (by (try simp only [k_lenL, List.length_append, List.length_cons, List.length_nil]) <;> omega) rfl (fun hI => ?_)
  refine k_aload_n dX7_init_120 0 rfl rfl (by omega) ?_
  have hlN : (L ++ ((.inr (8, [L.length + 4, L.length + 13, L.length + 17, L.length + 21, L.length + 26, L.length + 27, L.length + 101, L.length + 110, 2, 2, 0, 0, 0, 0]) : k_Sh) :: (T7))).length = L.length + 116 := (by (try simp only [k_lenL, List.length_append, List.length_cons, List.length_nil, hn7]) <;> omega)
  refine k_newJ (N := 5) (k := 6) (n := 88) (r := L.length + 116) (T' := T7 ++ [.inr (7, [2, 2, 2, 0, 0])]) (cs := [2, 2, 2, 0, 0]) dX7_init_121 kcX6 w_299 w_300 w_92 rfl (by decide) (by intro j hj; have hj2 : j = 0 ∨ j = 1 ∨ j = 2 ∨ j = 3 ∨ j = 4 := (by omega); rcases hj2 with rfl | rfl | rfl | rfl | rfl <;> rfl) ⟨by omega, by (try simp only [k_lenL, List.length_append, List.length_cons, List.length_nil, hn7]) <;> omega⟩ hI (k_okl_l (Or.inl (by show (L.length : Nat) < _; rw [hlN]; omega)) (k_okl_s (Or.inl (by show (L.length : Nat) < _; rw [hlN]; omega)) k_okl_0)) rfl (by (try simp only [k_lenL, List.length_append, List.length_cons, List.length_nil, hn7]) <;> omega) (fun hI => ?_)
  refine k_dup dX7_init_124 rfl ?_
  have hl8 : (L ++ ((.inr (8, [L.length + 4, L.length + 13, L.length + 17, L.length + 21, L.length + 26, L.length + 27, L.length + 101, L.length + 110, 2, 2, 0, 0, 0, 0]) : k_Sh) :: (T7))).length = L.length + 116 := (by (try simp only [k_lenL, List.length_append, List.length_cons, List.length_nil, hn7]) <;> omega)
  have hm8 : (L ++ ((.inr (8, [L.length + 4, L.length + 13, L.length + 17, L.length + 21, L.length + 26, L.length + 27, L.length + 101, L.length + 110, 2, 2, 0, 0, 0, 0]) : k_Sh) :: (T7 ++ [.inr (7, [2, 2, 2, 0, 0])]))).length = L.length + 116 + 1 := (by (try simp only [k_lenL, List.length_append, List.length_cons, List.length_nil, hn7]) <;> omega)
  have hI8 : k_I ((L ++ ((.inr (8, [L.length + 4, L.length + 13, L.length + 17, L.length + 21, L.length + 26, L.length + 27, L.length + 101, L.length + 110, 2, 2, 0, 0, 0, 0]) : k_Sh) :: (T7))) ++ [.inr (7, [2, 2, 2, 0, 0])]) (u_plan0 (u_plan0 (g_hi (u_chg0 (u_plan0 σ (L.length + 1)) (L.length + 23)) (L.length + 24) 8) (L.length + 98)) (L.length + 107)) := by rw [List.append_assoc]; exact hI
  refine k_callI (k := 2) (n := 20) (st := [.ref (L.length + 116), .ref (L.length)]) (as := []) dX7_init_125 oX6_init rfl rfl w_301 w_302 rfl (by omega) rfl (Nat.le_of_ble_eq_true rfl) (by omega) (k_C_eq hl8 (List.append_assoc _ _ _) (c_prgInit (by rw [hl8]; omega) hI8)) (fun X s1 s2 h => by cases h.1) (Or.inl (k_okl_l (Or.inl (by show (L.length : Nat) < _; rw [hm8]; omega)) (k_okl_s (Or.inl (by show (L.length + 116 : Nat) < _; rw [hm8]; omega)) (k_okl_s (Or.inl (by show (L.length : Nat) < _; rw [hm8]; omega)) k_okl_0)))) (fun v s1 s2 h => ?_)
  obtain ⟨g1, g2, g3, hI⟩ := h
  try rw [hl8] at g2
  have g2 : s1 = L ++ ((.inr (8, [L.length + 4, L.length + 13, L.length + 17, L.length + 21, L.length + 26, L.length + 27, L.length + 101, L.length + 110, 2, 2, 0, 0, 0, 0]) : k_Sh) :: (T7 ++ k_prgS (L.length + 116))) := g2.trans (List.append_assoc _ _ _)
  rw [hl8] at g3
  subst g2
  subst g3
  cases g1
  have hn8 : List.length (T7 ++ k_prgS (L.length + 116)) = 120 := (by (try simp only [k_lenL, List.length_append, List.length_cons, List.length_nil, hn7, k_planS_l, k_placS_l, k_chnS_l, k_arrS_l, k_chgS_l, k_hisS_l, k_prgS_l, k_sbS_l]) <;> omega)
  generalize hT8 : (T7 ++ k_prgS (L.length + 116)) = T8 at hI hn8 ⊢
  clear hl8 hm8 hI8 hlN hn7
  refine k_refF (kf := 8) (cs' := [L.length + 4, L.length + 13, L.length + 17, L.length + 21, L.length + 26, L.length + 27, L.length + 101, L.length + 110, L.length + 119, 2, 0, 0, 0, 0]) dX7_init_128 kcX7 w_366 (by decide) (Nat.le_of_ble_eq_true rfl) rfl rfl rfl (fun x => rfl) (fun x => rfl) ⟨by omega, by (try simp only [k_lenL, List.length_append, List.length_cons, List.length_nil, hn8]) <;> omega⟩ hI (by (try simp only [k_lenL, List.length_append, List.length_cons, List.length_nil]) <;> omega) rfl (fun hI => ?_)
  refine k_aload_n dX7_init_131 0 rfl rfl (by omega) ?_
  have hlN : (L ++ ((.inr (8, [L.length + 4, L.length + 13, L.length + 17, L.length + 21, L.length + 26, L.length + 27, L.length + 101, L.length + 110, L.length + 119, 2, 0, 0, 0, 0]) : k_Sh) :: (T8))).length = L.length + 121 := (by (try simp only [k_lenL, List.length_append, List.length_cons, List.length_nil, hn8]) <;> omega)
  refine k_newJ (N := 4) (k := 1) (n := 16) (r := L.length + 121) (T' := T8 ++ [.inr (0, [2, 0, 0, 0])]) (cs := [2, 0, 0, 0]) dX7_init_132 kcJ4 w_356 w_306 w_94 rfl (by decide) (by intro j hj; have hj2 : j = 0 ∨ j = 1 ∨ j = 2 ∨ j = 3 := (by omega); rcases hj2 with rfl | rfl | rfl | rfl <;> rfl) ⟨by omega, by (try simp only [k_lenL, List.length_append, List.length_cons, List.length_nil, hn8]) <;> omega⟩ hI (k_okl_l (Or.inl (by show (L.length : Nat) < _; rw [hlN]; omega)) (k_okl_s (Or.inl (by show (L.length : Nat) < _; rw [hlN]; omega)) k_okl_0)) rfl (by (try simp only [k_lenL, List.length_append, List.length_cons, List.length_nil, hn8]) <;> omega) (fun hI => ?_)
  refine k_dup dX7_init_135 rfl ?_
  have hl9 : (L ++ ((.inr (8, [L.length + 4, L.length + 13, L.length + 17, L.length + 21, L.length + 26, L.length + 27, L.length + 101, L.length + 110, L.length + 119, 2, 0, 0, 0, 0]) : k_Sh) :: (T8))).length = L.length + 121 := (by (try simp only [k_lenL, List.length_append, List.length_cons, List.length_nil, hn8]) <;> omega)
  have hm9 : (L ++ ((.inr (8, [L.length + 4, L.length + 13, L.length + 17, L.length + 21, L.length + 26, L.length + 27, L.length + 101, L.length + 110, L.length + 119, 2, 0, 0, 0, 0]) : k_Sh) :: (T8 ++ [.inr (0, [2, 0, 0, 0])]))).length = L.length + 121 + 1 := (by (try simp only [k_lenL, List.length_append, List.length_cons, List.length_nil, hn8]) <;> omega)
  have hI9 : k_I ((L ++ ((.inr (8, [L.length + 4, L.length + 13, L.length + 17, L.length + 21, L.length + 26, L.length + 27, L.length + 101, L.length + 110, L.length + 119, 2, 0, 0, 0, 0]) : k_Sh) :: (T8))) ++ [.inr (0, [2, 0, 0, 0])]) (u_sb0 (u_plan0 (u_plan0 (g_hi (u_chg0 (u_plan0 σ (L.length + 1)) (L.length + 23)) (L.length + 24) 8) (L.length + 98)) (L.length + 107)) (L.length + 117)) := by rw [List.append_assoc]; exact hI
  refine k_callI (k := 0) (n := 0) (st := [.ref (L.length + 121), .ref (L.length)]) (as := []) dX7_init_136 oJ4_init_da8c8 rfl rfl w_357 w_308 rfl (by omega) rfl (Nat.le_of_ble_eq_true rfl) (by omega) (k_C_eq hl9 (List.append_assoc _ _ _) (c_sbInit (by rw [hl9]; omega) hI9)) (fun X s1 s2 h => by cases h.1) (Or.inl (k_okl_l (Or.inl (by show (L.length : Nat) < _; rw [hm9]; omega)) (k_okl_s (Or.inl (by show (L.length + 121 : Nat) < _; rw [hm9]; omega)) (k_okl_s (Or.inl (by show (L.length : Nat) < _; rw [hm9]; omega)) k_okl_0)))) (fun v s1 s2 h => ?_)
  obtain ⟨g1, g2, g3, hI⟩ := h
  try rw [hl9] at g2
  have g2 : s1 = L ++ ((.inr (8, [L.length + 4, L.length + 13, L.length + 17, L.length + 21, L.length + 26, L.length + 27, L.length + 101, L.length + 110, L.length + 119, 2, 0, 0, 0, 0]) : k_Sh) :: (T8 ++ k_sbS)) := g2.trans (List.append_assoc _ _ _)
  rw [hl9] at g3
  subst g2
  subst g3
  cases g1
  have hn9 : List.length (T8 ++ k_sbS) = 122 := (by (try simp only [k_lenL, List.length_append, List.length_cons, List.length_nil, hn8, k_planS_l, k_placS_l, k_chnS_l, k_arrS_l, k_chgS_l, k_hisS_l, k_prgS_l, k_sbS_l]) <;> omega)
  generalize hT9 : (T8 ++ k_sbS) = T9 at hI hn9 ⊢
  clear hl9 hm9 hI9 hlN hn8
  refine k_refF (kf := 9) (cs' := [L.length + 4, L.length + 13, L.length + 17, L.length + 21, L.length + 26, L.length + 27, L.length + 101, L.length + 110, L.length + 119, L.length + 124, 0, 0, 0, 0]) dX7_init_139 kcX7 w_367 (by decide) (Nat.le_of_ble_eq_true rfl) rfl rfl rfl (fun x => rfl) (fun x => rfl) ⟨by omega, by (try simp only [k_lenL, List.length_append, List.length_cons, List.length_nil, hn9]) <;> omega⟩ hI (by (try simp only [k_lenL, List.length_append, List.length_cons, List.length_nil]) <;> omega) rfl (fun hI => ?_)
  refine k_aload_n dX7_init_142 0 rfl rfl (by omega) ?_
  refine k_iconst (v := (-1)) dX7_init_143 rfl ?_
  refine k_intF (kf := 11) dX7_init_144 kcX7 w_369 (by decide) rfl rfl rfl rfl (by omega) hI (fun hI => ?_)
  refine k_aload_n dX7_init_147 0 rfl rfl (by omega) ?_
  refine k_iconst (v := (-1)) dX7_init_148 rfl ?_
  refine k_intF (kf := 12) dX7_init_149 kcX7 w_370 (by decide) rfl rfl rfl rfl (by omega) hI (fun hI => ?_)
  refine k_aload_n dX7_init_152 0 rfl rfl (by omega) ?_
  refine k_iconst (v := 0) dX7_init_153 rfl ?_
  refine k_intF (kf := 13) dX7_init_154 kcX7 w_371 (by decide) rfl rfl rfl rfl (by omega) hI (fun hI => ?_)
  subst hT9 hT8 hT7 hT6 hT5 hT4 hT3 hT2 hT1 hT0
  exact k_ret_v dX7_init_157 rfl ⟨rfl, rfl, rfl, hI⟩
/-- made at 0 it is the world's first part -/
theorem k_pln_shape : k_plnS 0 = k_shape.take 123 := by decide +kernel
end K_CP
