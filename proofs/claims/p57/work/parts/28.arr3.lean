/-! ===== ARRANGEMENTS, third part: best, by trial, carried out ===== -/
section K_X
variable {E : k_E} {sh : List k_Sh} {σ : Nat → Nat → Int}
def f_abest (σ : Nat → Nat → Int) : g_B := g_set (g_comm σ (σ 1 2).toNat) (σ 1 0) (σ 1 1).toNat (σ 1 0).toNat 0 (σ 20, σ 21, σ 22, 37)
def u_abest (σ : Nat → Nat → Int) : Nat → Nat → Int := g_putA (u_comm σ) (f_abest σ)
def f_atry (σ : Nat → Nat → Int) : Int × g_B := g_try (g_comm σ (σ 1 2).toNat) (σ 1 0) (σ 1 1).toNat (σ 1 0).toNat 0 (σ 20, σ 21, σ 22, σ 18 5)
def u_atry (σ : Nat → Nat → Int) : Nat → Nat → Int := g_putA (u_comm σ) (f_atry σ).2
theorem g_B0 (hA : k_Ar σ) {z : Int} (hz : 0 ≤ z ∧ z ≤ 2147483647) : g_bOk (σ 20, σ 21, σ 22, z) := ⟨hA.2.1, hA.2.2.1, hA.2.2.2, hz⟩
theorem f_abest_ok (hI : k_Ty σ) (hA : k_Ar σ) : g_bOk (f_abest σ) := g_set_ok (g_comm_r hI hA.1) hI.1.2 (by have := hI.2.1; omega) _ _ _ (by have := hI.1; omega) (by decide) (g_B0 hA (by decide))
theorem u_abest_pl : k_PlEq (u_abest σ) σ := (((((k_PlEq.refl.up (by decide)).up (by decide)).up (by decide)).up (by decide)).up (by decide))
theorem u_abest_ar (hI : k_Ty σ) (hA : k_Ar σ) : k_Ar (u_abest σ) := by
  have h := f_abest_ok hI hA
  exact ⟨g_comm_r hI hA.1, h.1, h.2.1, h.2.2.1⟩
theorem f_atry_ok (hI : k_Ty σ) (hA : k_Ar σ) (h5 : 0 ≤ σ 18 5 ∧ σ 18 5 ≤ 2147483647) : (0 ≤ (f_atry σ).1 ∧ (f_atry σ).1 ≤ 2147483647) ∧ g_bOk (f_atry σ).2 := g_try_ok (g_comm_r hI hA.1) hI.1.2 (by have := hI.2.1; omega) _ _ _ (by have := hI.1; omega) (by have := hI.1; omega) (g_B0 hA h5)
theorem c_settle0 (hsh : k_Main sh) (hI : k_Ty σ) (hA : k_Ar σ) : k_C E mX0_settle ((σ 1 0).toNat + 3) [.ref 18, .int (iI 0), .int (iI 0)] sh (g_putA (u_comm σ) (σ 20, σ 21, σ 22, 37)) 0 0 (k_ret none sh (u_abest σ)) := by
  have hT : k_Ty (u_comm σ) := (k_PlEq.refl.up (by decide) : k_PlEq (u_comm σ) σ).ty hI
  have t0 := hI.1
  have e0 : (u_comm σ) 1 0 - (((σ 1 0).toNat : Nat) : Int) = 0 := by show σ 1 0 - (((σ 1 0).toNat : Nat) : Int) = 0; omega
  have h := c_settle (E := E) hsh hT (g_comm_r hI hA.1) (σ 1 0).toNat (by show (((σ 1 0).toNat : Nat) : Int) ≤ σ 1 0; omega) 0 (σ 20, σ 21, σ 22, 37) (by rw [e0]; decide) (g_B0 hA (by decide))
  rw [e0] at h
  exact h
theorem c_tryAll0 (hsh : k_Main sh) (hI : k_Ty σ) (hA : k_Ar σ) (h5 : 0 ≤ σ 18 5 ∧ σ 18 5 ≤ 2147483647) : k_C E mX0_tryAll ((σ 1 0).toNat + 3) [.ref 18, .int (iI 0), .int (iI 0)] sh (g_putA (u_comm σ) (σ 20, σ 21, σ 22, σ 18 5)) 0 0 (k_ret (some (.int (iI (f_atry σ).1))) sh (u_atry σ)) := by
  have hT : k_Ty (u_comm σ) := (k_PlEq.refl.up (by decide) : k_PlEq (u_comm σ) σ).ty hI
  have t0 := hI.1
  have e0 : (u_comm σ) 1 0 - (((σ 1 0).toNat : Nat) : Int) = 0 := by show σ 1 0 - (((σ 1 0).toNat : Nat) : Int) = 0; omega
  have h := c_tryAll (E := E) hsh hT (g_comm_r hI hA.1) (σ 1 0).toNat (by show (((σ 1 0).toNat : Nat) : Int) ≤ σ 1 0; omega) 0 (σ 20, σ 21, σ 22, σ 18 5) (by rw [e0]; decide) (g_B0 hA h5)
  rw [e0] at h
  exact h
set_option maxHeartbeats 4000000 in
theorem c_findBestA (hsh : k_Main sh) (hI : k_Ty σ) (hA : k_Ar σ)  : k_C E mX0_findBest 11 [.ref 18] sh σ 0 0 (k_ret (some (.int (iI ((f_abest σ).2.2.2)))) sh (u_abest σ)) := by
  refine k_C_of (ls0 := [(0, .ref 18)]) rfl pnX0 (fun v hv => k_cat1 rfl hv) (Nat.le_of_ble_eq_true rfl) rfl ?_
  obtain ⟨t0, t1, t2, t3, t4, t5, t6, t7, t8, t9, t10, t11⟩ := id hI
  have hT : k_Ty (u_comm σ) := (k_PlEq.refl.up (by decide) : k_PlEq (u_comm σ) σ).ty hI
  have hq : ∀ j, 0 ≤ (u_comm σ) 19 j ∧ (u_comm σ) 19 j ≤ 12 := g_comm_r hI hA.1
  have hset := c_settle0 (E := E) hsh hI hA
  refine k_aload_n dX0_findBest_0 0 rfl rfl (by decide) ?_
  refine k_callVr (st := []) (as := []) dX0_findBest_1 oX0_collectCommon w_566 w_568 w_4 rfl (by omega) rfl (Nat.le_of_ble_eq_true rfl) (by decide) (s_18 hsh) rfl (c_collectCommon hsh hI) ?_
  refine k_aload_n dX0_findBest_4 0 rfl rfl (by decide) ?_
  refine k_bipush (v := 37) dX0_findBest_5 (by decide) ?_
  refine k_eqst (st' := [.int (iI 37), .ref 18]) rfl ?_
  refine k_putf (kf := 5) dX0_findBest_7 kcX0 w_242 (by decide) (by decide) (s_18 hsh) rfl rfl rfl rfl ?_
  refine k_eqσ (σ' := g_putA (u_comm σ) (σ 20, σ 21, σ 22, 37)) (by funext i; by_cases e18 : i = 18; (· subst e18; rfl); by_cases e22 : i = 22; (· subst e22; rfl); by_cases e21 : i = 21; (· subst e21; rfl); by_cases e20 : i = 20; (· subst e20; rfl); simp [k_up, g_putA, u_comm, e18, e22, e21, e20]) ?_
  refine k_aload_n dX0_findBest_10 0 rfl rfl (by decide) ?_
  refine k_iconst (v := 0) dX0_findBest_11 rfl ?_
  refine k_iconst (v := 0) dX0_findBest_12 rfl ?_
  refine k_callSr (st := []) (as := [.ref 18, .int (iI (0)), .int (iI (0))]) dX0_findBest_13 oX0_settle w_578 w_579 rfl (by omega) rfl (Nat.le_of_ble_eq_true rfl) (hset) ?_
  refine k_aload_n dX0_findBest_16 0 rfl rfl (by decide) ?_
  refine k_get (kf := 5) (v := .int (iI ((f_abest σ).2.2.2))) dX0_findBest_17 kcX0 w_242 (by decide) (by decide) (s_18 hsh) rfl rfl ?_
  exact k_reti dX0_findBest_20 rfl rfl (by rfl)
set_option maxHeartbeats 4000000 in
theorem c_fewestByTrial (hsh : k_Main sh) (hI : k_Ty σ) (hA : k_Ar σ) (h5 : 0 ≤ σ 18 5 ∧ σ 18 5 ≤ 2147483647)  : k_C E mX0_fewestByTrial 11 [.ref 18] sh σ 0 0 (k_ret (some (.int (iI ((f_atry σ).1)))) sh (u_atry σ)) := by
  refine k_C_of (ls0 := [(0, .ref 18)]) rfl pnX0 (fun v hv => k_cat1 rfl hv) (Nat.le_of_ble_eq_true rfl) rfl ?_
  obtain ⟨t0, t1, t2, t3, t4, t5, t6, t7, t8, t9, t10, t11⟩ := id hI
  have hT : k_Ty (u_comm σ) := (k_PlEq.refl.up (by decide) : k_PlEq (u_comm σ) σ).ty hI
  have hq : ∀ j, 0 ≤ (u_comm σ) 19 j ∧ (u_comm σ) 19 j ≤ 12 := g_comm_r hI hA.1
  have htry := c_tryAll0 (E := E) hsh hI hA h5
  refine k_aload_n dX0_fewestByTrial_0 0 rfl rfl (by decide) ?_
  refine k_callVr (st := []) (as := []) dX0_fewestByTrial_1 oX0_collectCommon w_566 w_568 w_4 rfl (by omega) rfl (Nat.le_of_ble_eq_true rfl) (by decide) (s_18 hsh) rfl (c_collectCommon hsh hI) ?_
  refine k_eqσ (σ' := g_putA (u_comm σ) (σ 20, σ 21, σ 22, σ 18 5)) (by funext i; by_cases e18 : i = 18; (· subst e18; show k_u1 (σ 18) 5 (σ 18 5) = σ 18; funext j; unfold k_u1; split; (· rename_i h; rw [h]); rfl); by_cases e22 : i = 22; (· subst e22; rfl); by_cases e21 : i = 21; (· subst e21; rfl); by_cases e20 : i = 20; (· subst e20; rfl); simp [k_up, g_putA, u_comm, e18, e22, e21, e20]) ?_
  refine k_aload_n dX0_fewestByTrial_4 0 rfl rfl (by decide) ?_
  refine k_iconst (v := 0) dX0_fewestByTrial_5 rfl ?_
  refine k_iconst (v := 0) dX0_fewestByTrial_6 rfl ?_
  refine k_callSr (st := []) (as := [.ref 18, .int (iI (0)), .int (iI (0))]) dX0_fewestByTrial_7 oX0_tryAll w_594 w_595 rfl (by omega) rfl (Nat.le_of_ble_eq_true rfl) (htry) ?_
  exact k_reti dX0_fewestByTrial_10 rfl rfl (by rfl)
def u_arrN (σ : Nat → Nat → Int) (n : Nat) : Nat → Nat → Int := k_up (u_abest σ) 3 (k_fold n (fun s g => k_u1 g s (z_one ((f_abest σ).2.1 s))) (σ 3))
def u_arr (σ : Nat → Nat → Int) : Nat → Nat → Int := u_arrN σ (σ 1 0).toNat
theorem u_arrN_ty (hI : k_Ty σ) (hA : k_Ar σ) (n : Nat) : k_Ty (u_arrN σ n) := by
  have hb := (f_abest_ok hI hA).2.1
  have h : ∀ j, 0 ≤ k_fold n (fun s g => k_u1 g s (z_one ((f_abest σ).2.1 s))) (σ 3) j ∧ k_fold n (fun s g => k_u1 g s (z_one ((f_abest σ).2.1 s))) (σ 3) j < 16 := by
    refine k_foldu (P := fun z => 0 ≤ z ∧ z < 16) hI.2.2.2.2.1 (fun s => ?_) n
    have h1 := hb s
    exact ⟨Int.le_of_lt (z_one_pos _), z_one_lt 4 (by omega) h1.1⟩
  exact ⟨hI.1, hI.2.1, hI.2.2.1, hI.2.2.2.1, h, hI.2.2.2.2.2⟩
set_option maxHeartbeats 4000000 in
theorem c_carryOutA (hsh : k_Main sh) (hI : k_Ty σ) (hA : k_Ar σ)  : k_C E mX0_carryOut 12 [.ref 18] sh σ 0 0 (k_ret (some (.int (iI ((f_abest σ).2.2.2)))) sh (u_arr σ)) := by
  refine k_C_of (ls0 := [(0, .ref 18)]) rfl pnX0 (fun v hv => k_cat1 rfl hv) (Nat.le_of_ble_eq_true rfl) rfl ?_
  obtain ⟨t0, t1, t2, t3, t4, t5, t6, t7, t8, t9, t10, t11⟩ := id hI
  have hb := f_abest_ok hI hA
  refine k_aload_n dX0_carryOut_0 0 rfl rfl (by decide) ?_
  refine k_callVr (st := []) (as := []) dX0_carryOut_1 oX0_findBest w_891 w_563 w_564 rfl (by omega) rfl (Nat.le_of_ble_eq_true rfl) (by decide) (s_18 hsh) rfl (c_findBestA hsh hI hA) ?_
  refine k_istore_n (ls' := [(0, .ref 18), (1, .int (iI ((f_abest σ).2.2.2)))]) dX0_carryOut_4 rfl (by decide) rfl rfl ?_
  refine k_iconst (v := 0) dX0_carryOut_5 rfl ?_
  refine k_istore_n (ls' := [(0, .ref 18), (1, .int (iI ((f_abest σ).2.2.2))), (2, .int (iI (0)))]) dX0_carryOut_6 rfl (by decide) rfl rfl ?_
  refine k_eqσ (σ' := (u_arrN σ 0)) (by funext i; by_cases e3 : i = 3; (· subst e3; rfl); simp [k_up, u_arrN, e3]) ?_
  refine k_down (P := fun i7 : Nat => k_V E mX0_carryOut _ 7 [(0, .ref 18), (1, .int (iI ((f_abest σ).2.2.2))), (2, .int (iI ((i7 : Int))))] [] sh (u_arrN σ i7) _ _ _) ((σ 1 0).toNat) ?_ ?_
  · skip
    have hT := u_arrN_ty hI hA ((σ 1 0).toNat)
    have q1 := hb.2.1 ((σ 1 0).toNat)
    have q2 := z_one_pos ((f_abest σ).2.1 ((σ 1 0).toNat))
    have q3 : z_one ((f_abest σ).2.1 ((σ 1 0).toNat)) < 16 := z_one_lt 4 (by omega) q1.1
    refine k_iload_n dX0_carryOut_7 2 rfl rfl ?_
    refine k_aload_n dX0_carryOut_8 0 rfl rfl (by decide) ?_
    refine k_get (kf := 0) (v := .ref 1) dX0_carryOut_9 kcX0 w_237 (by decide) (by decide) (s_18 hsh) rfl rfl ?_
    refine k_getN (kf := 0) (v := .int (iI ((u_arrN σ ((σ 1 0).toNat)) 1 0))) dX0_carryOut_12 kcX5 w_133 (by decide) (by decide) (s_1 hsh) rfl rfl ?_
    refine k_eqst (congrArg (fun z : Int => Value.int (iI z) :: [.int (iI ((((σ 1 0).toNat : Nat) : Int)))]) (show σ 1 0 = (u_arrN σ ((σ 1 0).toNat)) 1 0 from rfl)) ?_
    refine k_icmp_ge (tgt := 43) dX0_carryOut_15 rfl ⟨by omega, by omega⟩ ⟨by omega, by omega⟩ (fun h_1 => ?_) (fun h_1 => absurd h_1 (by omega))
    refine k_iload_n dX0_carryOut_43 1 rfl rfl ?_
    exact k_reti dX0_carryOut_44 rfl rfl (by rfl)
  · intro i7 hi7 ih7
    have hT := u_arrN_ty hI hA i7
    have q1 := hb.2.1 i7
    have q2 := z_one_pos ((f_abest σ).2.1 i7)
    have q3 : z_one ((f_abest σ).2.1 i7) < 16 := z_one_lt 4 (by omega) q1.1
    refine k_iload_n dX0_carryOut_7 2 rfl rfl ?_
    refine k_aload_n dX0_carryOut_8 0 rfl rfl (by decide) ?_
    refine k_get (kf := 0) (v := .ref 1) dX0_carryOut_9 kcX0 w_237 (by decide) (by decide) (s_18 hsh) rfl rfl ?_
    refine k_getN (kf := 0) (v := .int (iI ((u_arrN σ i7) 1 0))) dX0_carryOut_12 kcX5 w_133 (by decide) (by decide) (s_1 hsh) rfl rfl ?_
    refine k_eqst (congrArg (fun z : Int => Value.int (iI z) :: [.int (iI ((i7 : Int)))]) (show σ 1 0 = (u_arrN σ i7) 1 0 from rfl)) ?_
    refine k_icmp_ge (tgt := 43) dX0_carryOut_15 rfl ⟨by omega, by omega⟩ ⟨by omega, by omega⟩ (fun h_2 => absurd h_2 (by omega)) (fun h_2 => ?_)
    refine k_aload_n dX0_carryOut_18 0 rfl rfl (by decide) ?_
    refine k_get (kf := 0) (v := .ref 1) dX0_carryOut_19 kcX0 w_237 (by decide) (by decide) (s_18 hsh) rfl rfl ?_
    refine k_iload_n dX0_carryOut_22 2 rfl rfl ?_
    refine k_iconst (v := 1) dX0_carryOut_23 rfl ?_
    refine k_aload_n dX0_carryOut_24 0 rfl rfl (by decide) ?_
    refine k_get (kf := 3) (v := .ref 21) dX0_carryOut_25 kcX0 w_240 (by decide) (by decide) (s_18 hsh) rfl rfl ?_
    refine k_iload_n dX0_carryOut_28 2 rfl rfl ?_
    refine k_callSNr (st := [.int (iI (1)), .int (iI ((i7 : Int))), .ref 1]) (as := [.ref 21, .int (iI ((i7 : Int)))]) dX0_carryOut_29 oX7_read w_577 w_460 rfl (by omega) rfl (Nat.le_of_ble_eq_true rfl) (c_readIn (by decide) (s_21 hsh) (by decide) (by omega) (by omega)) ?_
    refine k_eqst (congrArg (fun z : Int => Value.int (iI z) :: [.int (iI (1)), .int (iI ((i7 : Int))), .ref 1]) (show (f_abest σ).2.1 i7 = (u_arrN σ i7) 21 ((i7 : Int)).toNat from rfl)) ?_
    refine k_ishl (v := (iI (z_one ((f_abest σ).2.1 i7)))) dX0_carryOut_32 (z_oneI (by omega) (by omega)) ?_
    refine k_callVr (st := []) (as := [.int (iI ((i7 : Int))), .int (iI (z_one ((f_abest σ).2.1 i7)))]) dX0_carryOut_33 oX5_setOpenBlocks w_892 w_843 w_844 rfl (by omega) rfl (Nat.le_of_ble_eq_true rfl) (by decide) (s_1 hsh) rfl (c_setOpenBlocks hsh hT ⟨by omega, by omega⟩ ⟨by omega, by omega⟩ (by omega) ⟨by omega, by omega⟩) ?_
    refine k_pop dX0_carryOut_36 rfl ?_
    refine k_iinc (ls' := [(0, .ref 18), (1, .int (iI ((f_abest σ).2.2.2))), (2, .int (iI ((i7 : Int) + 1)))]) dX0_carryOut_37 2 rfl (by decide) rfl rfl ?_
    refine k_goto (tgt := 7) dX0_carryOut_40 rfl ?_
    refine k_eqσ (σ' := (u_arrN σ (i7 + 1))) (by funext i; by_cases e3 : i = 3; (· subst e3; rfl); simp [k_up, u_arrN, e3]) ?_
    exact ih7
end K_X
