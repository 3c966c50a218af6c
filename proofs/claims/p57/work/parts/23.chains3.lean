/-! ===== CHAINS, third part: trial, reasons, carrying out ===== -/
section K_R
variable {E : k_E} {sh : List k_Sh} {σ : Nat → Nat → Int}
/-- whether some moves from a block, to classes not met before, lead to a class with room -/
def g_lead (σ : Nat → Nat → Int) (s : Int) : Nat → Int → Int → Bool
  | 0, a, _ => z_bit (f_roomy σ s 0) a
  | n + 1, a, met => z_any 4 (fun t => z_bit (z_diff (f_open σ s) met) (t : Int) && (decide (z_diff (f_roster σ s a) (f_busy σ (t : Int)) ≠ 0) && g_lead σ s n (t : Int) (z_or met (z_one (t : Int)))))
set_option maxHeartbeats 4000000 in
theorem c_leadsToRoom (hsh : k_Main sh) (hI : k_Ty σ) {s : Int} (hs : -2147483648 ≤ s ∧ s < 2147483648) : ∀ m : Nat, m ≤ 4 → ∀ (a met : Int), (0 ≤ a ∧ a < 4) → (0 ≤ met ∧ met < 16) → k_C E mX1_leadsToRoom (m + 5) [.ref 1, .int (iI s), .int (iI a), .int (iI (m : Int)), .int (iI met)] sh σ 0 0 (k_ret (some (.int (iI (zb (g_lead σ s m a met = true))))) sh σ) := by
  have q0 := f_roomy_r σ hI s 0
  have q1 := f_open_r hI s
  have q1b : ∀ met : Int, 0 ≤ z_diff (f_open σ s) met ∧ z_diff (f_open σ s) met < 16 := fun met => ⟨z_diff_nn _ _, z_diff_lt 4 q1.2⟩
  intro m
  induction m with
  | zero =>
    intro hm a met ha ht
    refine k_C_of (ls0 := [(0, .ref 1), (1, .int (iI s)), (2, .int (iI a)), (3, .int (iI (((0 : Nat) : Int)))), (4, .int (iI met))]) rfl pnX1 (fun v hv => k_cat1 rfl hv) (Nat.le_of_ble_eq_true rfl) rfl ?_
    refine k_iload_n dX1_leadsToRoom_0 3 rfl rfl ?_
    refine k_if_le (tgt := 9) dX1_leadsToRoom_1 rfl ⟨by omega, by omega⟩ (fun h_1 => ?_) (fun h_1 => absurd h_1 (by omega))
    refine k_aload_n dX1_leadsToRoom_9 0 rfl rfl (by decide) ?_
    refine k_iload_n dX1_leadsToRoom_10 1 rfl rfl ?_
    refine k_iconst (v := 0) dX1_leadsToRoom_11 rfl ?_
    refine k_callVr (st := []) (as := [.int (iI (s)), .int (iI (0))]) dX1_leadsToRoom_12 oX5_roomyBlocks w_668 w_480 w_481 rfl (by omega) rfl (Nat.le_of_ble_eq_true rfl) (by decide) (s_1 hsh) rfl (c_roomyBlocks hsh hI ⟨by omega, by omega⟩ ⟨by omega, by omega⟩ (by omega)) ?_
    refine k_iload_n dX1_leadsToRoom_15 2 rfl rfl ?_
    refine k_callSNr (st := []) (as := [.int (iI (f_roomy σ s 0)), .int (iI (a))]) dX1_leadsToRoom_16 oX7_holds w_672 w_463 rfl (by omega) rfl (Nat.le_of_ble_eq_true rfl) (c_holds (by omega) (by omega)) ?_
    refine k_eqst (congrArg (fun z : Int => Value.int (iI z) :: []) (show zb (z_bit (f_roomy σ s 0) (a) = true) = zb (0 ≤ a ∧ a < 16 ∧ z_bit (f_roomy σ s 0) (a) = true) from (f_holds (by omega) (by omega)).symm)) ?_
    exact k_retz dX1_leadsToRoom_19 rfl (zb_z _) rfl (by rfl)
  | succ n IH =>
    intro hm a met ha ht
    have IH := IH (by omega)
    have q2 := q1b met
    refine k_C_of (ls0 := [(0, .ref 1), (1, .int (iI s)), (2, .int (iI a)), (3, .int (iI (((n + 1 : Nat) : Int)))), (4, .int (iI met))]) rfl pnX1 (fun v hv => k_cat1 rfl hv) (Nat.le_of_ble_eq_true rfl) rfl ?_
    refine k_iload_n dX1_leadsToRoom_0 3 rfl rfl ?_
    refine k_if_le (tgt := 9) dX1_leadsToRoom_1 rfl ⟨by omega, by omega⟩ (fun h_1 => absurd h_1 (by omega)) (fun h_1 => ?_)
    refine k_iload_n dX1_leadsToRoom_4 3 rfl rfl ?_
    refine k_iconst (v := 4) dX1_leadsToRoom_5 rfl ?_
    refine k_icmp_le (tgt := 20) dX1_leadsToRoom_6 rfl ⟨by omega, by omega⟩ ⟨by decide, by decide⟩ (fun h_2 => ?_) (fun h_2 => absurd h_2 (by omega))
    refine k_aload_n dX1_leadsToRoom_20 0 rfl rfl (by decide) ?_
    refine k_iload_n dX1_leadsToRoom_21 1 rfl rfl ?_
    refine k_callVr (st := []) (as := [.int (iI (s))]) dX1_leadsToRoom_22 oX5_openBlocks w_694 w_484 w_485 rfl (by omega) rfl (Nat.le_of_ble_eq_true rfl) (by decide) (s_1 hsh) rfl (c_openBlocks hsh hI ⟨by omega, by omega⟩) ?_
    refine k_iload dX1_leadsToRoom_25 4 rfl ?_
    refine k_iconst (v := (-1)) dX1_leadsToRoom_27 rfl ?_
    refine k_ixor (v := (iI (met) ^^^ iI (-1))) dX1_leadsToRoom_28 rfl ?_
    refine k_iand (v := (iI (z_diff (f_open σ s) (met)))) dX1_leadsToRoom_29 (z_diffI (by omega) (by omega) (by omega)) ?_
    refine k_istore (ls' := [(0, .ref 1), (1, .int (iI (s))), (2, .int (iI (a))), (3, .int (iI (((n + 1 : Nat) : Int)))), (4, .int (iI (met))), (5, .int (iI (z_diff (f_open σ s) (met))))]) dX1_leadsToRoom_30 (by decide) rfl rfl ?_
    refine k_iconst (v := 0) dX1_leadsToRoom_32 rfl ?_
    refine k_istore (ls' := [(0, .ref 1), (1, .int (iI (s))), (2, .int (iI (a))), (3, .int (iI (((n + 1 : Nat) : Int)))), (4, .int (iI (met))), (5, .int (iI (z_diff (f_open σ s) (met)))), (6, .int (iI (0)))]) dX1_leadsToRoom_33 (by decide) rfl rfl ?_
    refine k_downI (P := fun i35 : Nat => k_V E mX1_leadsToRoom _ 35 [(0, .ref 1), (1, .int (iI (s))), (2, .int (iI (a))), (3, .int (iI (((n + 1 : Nat) : Int)))), (4, .int (iI (met))), (5, .int (iI (z_diff (f_open σ s) (met)))), (6, .int (iI ((i35 : Int))))] [] sh σ _ _ _) (J := fun i35 : Nat => ∀ j, j < i35 → (fun t : Nat => z_bit (z_diff (f_open σ s) met) (t : Int) && (decide (z_diff (f_roster σ s a) (f_busy σ (t : Int)) ≠ 0) && g_lead σ s n (t : Int) (z_or met (z_one (t : Int))))) j = false) (4) (fun j hj => absurd hj (Nat.not_lt_zero j)) ?_ ?_
    · intro hJ35
      have q1 := f_open_r hI s
      have q2 := z_diff_nn (f_open σ s) met
      have q3 : z_diff (f_open σ s) met < 16 := z_diff_lt 4 q1.2
      have q4 := f_roster_r hI s a
      have q5 := f_busy_r hI ((4) : Int)
      have q6 := z_diff_nn (f_roster σ s a) (f_busy σ ((4) : Int))
      have q7 : z_diff (f_roster σ s a) (f_busy σ ((4) : Int)) < 4096 := z_diff_lt 12 q4.2
      refine k_iload dX1_leadsToRoom_35 6 rfl ?_
      refine k_iconst (v := 4) dX1_leadsToRoom_37 rfl ?_
      refine k_icmp_ge (tgt := 101) dX1_leadsToRoom_38 rfl ⟨by omega, by omega⟩ ⟨by decide, by decide⟩ (fun h_3 => ?_) (fun h_3 => absurd h_3 (by omega))
      refine k_iconst (v := 0) dX1_leadsToRoom_101 rfl ?_
      exact k_retz dX1_leadsToRoom_102 rfl (Or.inl rfl) rfl (by rw [g_lead, z_any_f (P := (fun t : Nat => z_bit (z_diff (f_open σ s) met) (t : Int) && (decide (z_diff (f_roster σ s a) (f_busy σ (t : Int)) ≠ 0) && g_lead σ s n (t : Int) (z_or met (z_one (t : Int)))))) 4 hJ35]; exact (zb_f (by decide)).symm)
    · intro i35 hi35 hJ35 ih35
      have q1 := f_open_r hI s
      have q2 := z_diff_nn (f_open σ s) met
      have q3 : z_diff (f_open σ s) met < 16 := z_diff_lt 4 q1.2
      have q4 := f_roster_r hI s a
      have q5 := f_busy_r hI (i35 : Int)
      have q6 := z_diff_nn (f_roster σ s a) (f_busy σ (i35 : Int))
      have q7 : z_diff (f_roster σ s a) (f_busy σ (i35 : Int)) < 4096 := z_diff_lt 12 q4.2
      have hn2 := z_or_nn met (z_one (i35 : Int))
      have hn3 : z_or met (z_one (i35 : Int)) < 16 := z_or_lt 4 (by omega) (z_one_lt 4 (by omega) (by omega))
      refine k_iload dX1_leadsToRoom_35 6 rfl ?_
      refine k_iconst (v := 4) dX1_leadsToRoom_37 rfl ?_
      refine k_icmp_ge (tgt := 101) dX1_leadsToRoom_38 rfl ⟨by omega, by omega⟩ ⟨by decide, by decide⟩ (fun h_4 => absurd h_4 (by omega)) (fun h_4 => ?_)
      refine k_aload_n dX1_leadsToRoom_41 0 rfl rfl (by decide) ?_
      refine k_iload_n dX1_leadsToRoom_42 1 rfl rfl ?_
      refine k_iload_n dX1_leadsToRoom_43 2 rfl rfl ?_
      refine k_callVr (st := []) (as := [.int (iI (s)), .int (iI (a))]) dX1_leadsToRoom_44 oX5_roster w_669 w_456 w_457 rfl (by omega) rfl (Nat.le_of_ble_eq_true rfl) (by decide) (s_1 hsh) rfl (c_roster hsh hI ⟨by omega, by omega⟩ ⟨by omega, by omega⟩) ?_
      refine k_aload_n dX1_leadsToRoom_47 0 rfl rfl (by decide) ?_
      refine k_iload dX1_leadsToRoom_48 6 rfl ?_
      refine k_callVr (st := [.int (iI (f_roster σ s a))]) (as := [.int (iI ((i35 : Int)))]) dX1_leadsToRoom_50 oX5_busyPupils w_671 w_452 w_453 rfl (by omega) rfl (Nat.le_of_ble_eq_true rfl) (by decide) (s_1 hsh) rfl (c_busyPupils hsh hI ⟨by omega, by omega⟩) ?_
      refine k_iconst (v := (-1)) dX1_leadsToRoom_53 rfl ?_
      refine k_ixor (v := (iI (f_busy σ ((i35 : Int))) ^^^ iI (-1))) dX1_leadsToRoom_54 rfl ?_
      refine k_iand (v := (iI (z_diff (f_roster σ s a) (f_busy σ ((i35 : Int)))))) dX1_leadsToRoom_55 (z_diffI (by omega) (by omega) (by omega)) ?_
      refine k_istore (ls' := [(0, .ref 1), (1, .int (iI (s))), (2, .int (iI (a))), (3, .int (iI (((n + 1 : Nat) : Int)))), (4, .int (iI (met))), (5, .int (iI (z_diff (f_open σ s) (met)))), (6, .int (iI ((i35 : Int)))), (7, .int (iI (z_diff (f_roster σ s a) (f_busy σ ((i35 : Int))))))]) dX1_leadsToRoom_56 (by decide) rfl rfl ?_
      refine k_iload dX1_leadsToRoom_58 5 rfl ?_
      refine k_iload dX1_leadsToRoom_60 6 rfl ?_
      refine k_callSNr (st := []) (as := [.int (iI (z_diff (f_open σ s) (met))), .int (iI ((i35 : Int)))]) dX1_leadsToRoom_62 oX7_holds w_672 w_463 rfl (by omega) rfl (Nat.le_of_ble_eq_true rfl) (c_holds (by omega) (by omega)) ?_
      refine k_eqst (congrArg (fun z : Int => Value.int (iI z) :: []) (show zb (z_bit (z_diff (f_open σ s) (met)) ((i35 : Int)) = true) = zb (0 ≤ ((i35 : Int)) ∧ ((i35 : Int)) < 16 ∧ z_bit (z_diff (f_open σ s) (met)) ((i35 : Int)) = true) from (f_holds (by omega) (by omega)).symm)) ?_
      refine k_if_eq (tgt := 95) dX1_leadsToRoom_65 rfl (zb_kr _) (fun h_5 => ?_) (fun h_5 => ?_)
      · have h_5 := zb_0.mp h_5
        refine k_iinc (ls' := [(0, .ref 1), (1, .int (iI (s))), (2, .int (iI (a))), (3, .int (iI (((n + 1 : Nat) : Int)))), (4, .int (iI (met))), (5, .int (iI (z_diff (f_open σ s) (met)))), (6, .int (iI ((i35 : Int) + 1))), (7, .int (iI (z_diff (f_roster σ s a) (f_busy σ ((i35 : Int))))))]) dX1_leadsToRoom_95 6 rfl (by decide) rfl rfl ?_
        refine k_goto (tgt := 35) dX1_leadsToRoom_98 rfl ?_
        refine k_dropr (ls' := [(0, .ref 1), (1, .int (iI (s))), (2, .int (iI (a))), (3, .int (iI (((n + 1 : Nat) : Int)))), (4, .int (iI (met))), (5, .int (iI (z_diff (f_open σ s) (met)))), (6, .int (iI ((i35 : Int) + 1)))]) (ex := [(7, .int (iI (z_diff (f_roster σ s a) (f_busy σ ((i35 : Int))))))]) rfl ?_
        exact ih35 (k_Jstep (P := (fun t : Nat => z_bit (z_diff (f_open σ s) met) (t : Int) && (decide (z_diff (f_roster σ s a) (f_busy σ (t : Int)) ≠ 0) && g_lead σ s n (t : Int) (z_or met (z_one (t : Int)))))) hJ35 (by simp [h_5]))
      · have h_5 := zb_n0.mp h_5
        refine k_iload dX1_leadsToRoom_68 7 rfl ?_
        refine k_if_eq (tgt := 95) dX1_leadsToRoom_70 rfl ⟨by omega, by omega⟩ (fun h_6 => ?_) (fun h_6 => ?_)
        · refine k_iinc (ls' := [(0, .ref 1), (1, .int (iI (s))), (2, .int (iI (a))), (3, .int (iI (((n + 1 : Nat) : Int)))), (4, .int (iI (met))), (5, .int (iI (z_diff (f_open σ s) (met)))), (6, .int (iI ((i35 : Int) + 1))), (7, .int (iI (z_diff (f_roster σ s a) (f_busy σ ((i35 : Int))))))]) dX1_leadsToRoom_95 6 rfl (by decide) rfl rfl ?_
          refine k_goto (tgt := 35) dX1_leadsToRoom_98 rfl ?_
          refine k_dropr (ls' := [(0, .ref 1), (1, .int (iI (s))), (2, .int (iI (a))), (3, .int (iI (((n + 1 : Nat) : Int)))), (4, .int (iI (met))), (5, .int (iI (z_diff (f_open σ s) (met)))), (6, .int (iI ((i35 : Int) + 1)))]) (ex := [(7, .int (iI (z_diff (f_roster σ s a) (f_busy σ ((i35 : Int))))))]) rfl ?_
          exact ih35 (k_Jstep (P := (fun t : Nat => z_bit (z_diff (f_open σ s) met) (t : Int) && (decide (z_diff (f_roster σ s a) (f_busy σ (t : Int)) ≠ 0) && g_lead σ s n (t : Int) (z_or met (z_one (t : Int)))))) hJ35 (by simp [h_5, h_6]))
        · refine k_aload_n dX1_leadsToRoom_73 0 rfl rfl (by decide) ?_
          refine k_iload_n dX1_leadsToRoom_74 1 rfl rfl ?_
          refine k_iload dX1_leadsToRoom_75 6 rfl ?_
          refine k_iload_n dX1_leadsToRoom_77 3 rfl rfl ?_
          refine k_iconst (v := 1) dX1_leadsToRoom_78 rfl ?_
          refine k_isub dX1_leadsToRoom_79 ?_
          refine k_eqst (congrArg (fun z : Int => Value.int (iI z) :: [.int (iI ((i35 : Int))), .int (iI (s)), .ref 1]) (show (n : Int) = (((n + 1 : Nat) : Int)) - 1 from by omega)) ?_
          refine k_iload dX1_leadsToRoom_80 4 rfl ?_
          refine k_iconst (v := 1) dX1_leadsToRoom_82 rfl ?_
          refine k_iload dX1_leadsToRoom_83 6 rfl ?_
          refine k_ishl (v := (iI (z_one ((i35 : Int))))) dX1_leadsToRoom_85 (z_oneI (by omega) (by omega)) ?_
          refine k_ior (v := (iI (z_or (met) (z_one ((i35 : Int)))))) dX1_leadsToRoom_86 (z_orI (by omega) (Int.le_of_lt (z_one_pos _))) ?_
          refine k_callSr (st := []) (as := [.ref 1, .int (iI (s)), .int (iI ((i35 : Int))), .int (iI ((n : Int))), .int (iI (z_or (met) (z_one ((i35 : Int)))))]) dX1_leadsToRoom_87 oX1_leadsToRoom w_1214 w_1215 rfl (by omega) rfl (Nat.le_of_ble_eq_true rfl) (IH ((i35 : Int)) (z_or (met) (z_one ((i35 : Int)))) ⟨by omega, by omega⟩ ⟨by omega, by omega⟩) ?_
          refine k_if_eq (tgt := 95) dX1_leadsToRoom_90 rfl (zb_kr _) (fun h_7 => ?_) (fun h_7 => ?_)
          · have h_7 := zb_0.mp h_7
            refine k_iinc (ls' := [(0, .ref 1), (1, .int (iI (s))), (2, .int (iI (a))), (3, .int (iI (((n + 1 : Nat) : Int)))), (4, .int (iI (met))), (5, .int (iI (z_diff (f_open σ s) (met)))), (6, .int (iI ((i35 : Int) + 1))), (7, .int (iI (z_diff (f_roster σ s a) (f_busy σ ((i35 : Int))))))]) dX1_leadsToRoom_95 6 rfl (by decide) rfl rfl ?_
            refine k_goto (tgt := 35) dX1_leadsToRoom_98 rfl ?_
            refine k_dropr (ls' := [(0, .ref 1), (1, .int (iI (s))), (2, .int (iI (a))), (3, .int (iI (((n + 1 : Nat) : Int)))), (4, .int (iI (met))), (5, .int (iI (z_diff (f_open σ s) (met)))), (6, .int (iI ((i35 : Int) + 1)))]) (ex := [(7, .int (iI (z_diff (f_roster σ s a) (f_busy σ ((i35 : Int))))))]) rfl ?_
            exact ih35 (k_Jstep (P := (fun t : Nat => z_bit (z_diff (f_open σ s) met) (t : Int) && (decide (z_diff (f_roster σ s a) (f_busy σ (t : Int)) ≠ 0) && g_lead σ s n (t : Int) (z_or met (z_one (t : Int)))))) hJ35 (by simp [h_5, h_6, h_7]))
          · have h_7 := zb_n0.mp h_7
            refine k_iconst (v := 1) dX1_leadsToRoom_93 rfl ?_
            exact k_retz dX1_leadsToRoom_94 rfl (Or.inr rfl) rfl (by rw [g_lead, z_any_t (P := (fun t : Nat => z_bit (z_diff (f_open σ s) met) (t : Int) && (decide (z_diff (f_roster σ s a) (f_busy σ (t : Int)) ≠ 0) && g_lead σ s n (t : Int) (z_or met (z_one (t : Int)))))) (by simp [h_5, h_6, h_7]) 4 hi35]; exact (zb_t rfl).symm)
def f_trial (σ : Nat → Nat → Int) (s f : Int) : Int := z_first 4 (fun m => z_any 4 (fun e => z_bit (z_and f (f_open σ s)) (e : Int) && g_lead σ s m (e : Int) (z_one (e : Int))))
set_option maxHeartbeats 4000000 in
theorem c_fewestMovesByTrial (hsh : k_Main sh) (hI : k_Ty σ) {s f : Int} (hs : -2147483648 ≤ s ∧ s < 2147483648) (hf : -2147483648 ≤ f ∧ f < 2147483648) (hf0 : 0 ≤ f ∧ f < 65536) : k_C E mX1_fewestMovesByTrial 10 [.ref 14, .int (iI (s)), .int (iI (f))] sh σ 0 0 (k_ret (some (.int (iI (f_trial σ s f)))) sh σ) := by
  refine k_C_of (ls0 := [(0, .ref 14), (1, .int (iI (s))), (2, .int (iI (f)))]) rfl pnX1 (fun v hv => k_cat1 rfl hv) (Nat.le_of_ble_eq_true rfl) rfl ?_
  obtain ⟨t0, t1, t2, t3, t4, t5, t6, t7, t8, t9, t10, t11⟩ := id hI
  have q1 := f_open_r hI s
  have q2 := z_and_nn f (f_open σ s)
  have q2b := z_and_le f (f_open σ s) hf0.1
  refine k_iload_n dX1_fewestMovesByTrial_0 2 rfl rfl ?_
  refine k_aload_n dX1_fewestMovesByTrial_1 0 rfl rfl (by decide) ?_
  refine k_get (kf := 0) (v := .ref 1) dX1_fewestMovesByTrial_2 kcX1 w_218 (by decide) (by decide) (s_14 hsh) rfl rfl ?_
  refine k_iload_n dX1_fewestMovesByTrial_5 1 rfl rfl ?_
  refine k_callVr (st := [.int (iI (f))]) (as := [.int (iI (s))]) dX1_fewestMovesByTrial_6 oX5_openBlocks w_694 w_484 w_485 rfl (by omega) rfl (Nat.le_of_ble_eq_true rfl) (by decide) (s_1 hsh) rfl (c_openBlocks hsh hI ⟨by omega, by omega⟩) ?_
  refine k_iand (v := (iI (z_and (f) (f_open σ s)))) dX1_fewestMovesByTrial_9 (z_andI (by omega) (by omega)) ?_
  refine k_istore_n (ls' := [(0, .ref 14), (1, .int (iI (s))), (2, .int (iI (f))), (3, .int (iI (z_and (f) (f_open σ s))))]) dX1_fewestMovesByTrial_10 rfl (by decide) rfl rfl ?_
  refine k_iconst (v := 0) dX1_fewestMovesByTrial_11 rfl ?_
  refine k_istore (ls' := [(0, .ref 14), (1, .int (iI (s))), (2, .int (iI (f))), (3, .int (iI (z_and (f) (f_open σ s)))), (4, .int (iI (0)))]) dX1_fewestMovesByTrial_12 (by decide) rfl rfl ?_
  refine k_downI (P := fun i14 : Nat => k_V E mX1_fewestMovesByTrial _ 14 [(0, .ref 14), (1, .int (iI (s))), (2, .int (iI (f))), (3, .int (iI (z_and (f) (f_open σ s)))), (4, .int (iI ((i14 : Int))))] [] sh σ _ _ _) (J := fun i14 : Nat => ∀ j, j < i14 → (fun m : Nat => z_any 4 (fun e => z_bit (z_and f (f_open σ s)) (e : Int) && g_lead σ s m (e : Int) (z_one (e : Int)))) j = false) (4) (fun j hj => absurd hj (Nat.not_lt_zero j)) ?_ ?_
  · intro hJ14
    refine k_iload dX1_fewestMovesByTrial_14 4 rfl ?_
    refine k_iconst (v := 4) dX1_fewestMovesByTrial_16 rfl ?_
    refine k_icmp_ge (tgt := 72) dX1_fewestMovesByTrial_17 rfl ⟨by omega, by omega⟩ ⟨by decide, by decide⟩ (fun h_1 => ?_) (fun h_1 => absurd h_1 (by omega))
    refine k_iconst (v := (-1)) dX1_fewestMovesByTrial_72 rfl ?_
    exact k_reti dX1_fewestMovesByTrial_73 rfl rfl (by exact (z_first_none (P := (fun m : Nat => z_any 4 (fun e => z_bit (z_and f (f_open σ s)) (e : Int) && g_lead σ s m (e : Int) (z_one (e : Int))))) 4 hJ14).symm)
  · intro i14 hi14 hJ14 ih14
    refine k_iload dX1_fewestMovesByTrial_14 4 rfl ?_
    refine k_iconst (v := 4) dX1_fewestMovesByTrial_16 rfl ?_
    refine k_icmp_ge (tgt := 72) dX1_fewestMovesByTrial_17 rfl ⟨by omega, by omega⟩ ⟨by decide, by decide⟩ (fun h_2 => absurd h_2 (by omega)) (fun h_2 => ?_)
    refine k_iconst (v := 0) dX1_fewestMovesByTrial_20 rfl ?_
    refine k_istore (ls' := [(0, .ref 14), (1, .int (iI (s))), (2, .int (iI (f))), (3, .int (iI (z_and (f) (f_open σ s)))), (4, .int (iI ((i14 : Int)))), (5, .int (iI (0)))]) dX1_fewestMovesByTrial_21 (by decide) rfl rfl ?_
    refine k_downI (P := fun i23 : Nat => k_V E mX1_fewestMovesByTrial _ 23 [(0, .ref 14), (1, .int (iI (s))), (2, .int (iI (f))), (3, .int (iI (z_and (f) (f_open σ s)))), (4, .int (iI ((i14 : Int)))), (5, .int (iI ((i23 : Int))))] [] sh σ _ _ _) (J := fun i23 : Nat => ∀ j, j < i23 → (fun e : Nat => z_bit (z_and f (f_open σ s)) (e : Int) && g_lead σ s i14 (e : Int) (z_one (e : Int))) j = false) (4) (fun j hj => absurd hj (Nat.not_lt_zero j)) ?_ ?_
    · intro hJ23
      have q3 := z_one_pos ((4) : Int)
      refine k_iload dX1_fewestMovesByTrial_23 5 rfl ?_
      refine k_iconst (v := 4) dX1_fewestMovesByTrial_25 rfl ?_
      refine k_icmp_ge (tgt := 66) dX1_fewestMovesByTrial_26 rfl ⟨by omega, by omega⟩ ⟨by decide, by decide⟩ (fun h_3 => ?_) (fun h_3 => absurd h_3 (by omega))
      refine k_iinc (ls' := [(0, .ref 14), (1, .int (iI (s))), (2, .int (iI (f))), (3, .int (iI (z_and (f) (f_open σ s)))), (4, .int (iI ((i14 : Int) + 1))), (5, .int (iI (((4 : Nat) : Int))))]) dX1_fewestMovesByTrial_66 4 rfl (by decide) rfl rfl ?_
      refine k_goto (tgt := 14) dX1_fewestMovesByTrial_69 rfl ?_
      refine k_dropr (ls' := [(0, .ref 14), (1, .int (iI (s))), (2, .int (iI (f))), (3, .int (iI (z_and (f) (f_open σ s)))), (4, .int (iI ((i14 : Int) + 1)))]) (ex := [(5, .int (iI (((4 : Nat) : Int))))]) rfl ?_
      exact ih14 (k_Jstep (P := (fun m : Nat => z_any 4 (fun e => z_bit (z_and f (f_open σ s)) (e : Int) && g_lead σ s m (e : Int) (z_one (e : Int))))) hJ14 (by show ¬ z_any 4 _ = true; rw [z_any_f (P := (fun e : Nat => z_bit (z_and f (f_open σ s)) (e : Int) && g_lead σ s i14 (e : Int) (z_one (e : Int)))) 4 hJ23]; decide))
    · intro i23 hi23 hJ23 ih23
      have q3 := z_one_pos (i23 : Int)
      have q4 : z_one (i23 : Int) < 16 := z_one_lt 4 (by omega) (by omega)
      refine k_iload dX1_fewestMovesByTrial_23 5 rfl ?_
      refine k_iconst (v := 4) dX1_fewestMovesByTrial_25 rfl ?_
      refine k_icmp_ge (tgt := 66) dX1_fewestMovesByTrial_26 rfl ⟨by omega, by omega⟩ ⟨by decide, by decide⟩ (fun h_4 => absurd h_4 (by omega)) (fun h_4 => ?_)
      refine k_iload_n dX1_fewestMovesByTrial_29 3 rfl rfl ?_
      refine k_iload dX1_fewestMovesByTrial_30 5 rfl ?_
      refine k_callSNr (st := []) (as := [.int (iI (z_and (f) (f_open σ s))), .int (iI ((i23 : Int)))]) dX1_fewestMovesByTrial_32 oX7_holds w_672 w_463 rfl (by omega) rfl (Nat.le_of_ble_eq_true rfl) (c_holds (by omega) (by omega)) ?_
      refine k_eqst (congrArg (fun z : Int => Value.int (iI z) :: []) (show zb (z_bit (z_and (f) (f_open σ s)) ((i23 : Int)) = true) = zb (0 ≤ ((i23 : Int)) ∧ ((i23 : Int)) < 16 ∧ z_bit (z_and (f) (f_open σ s)) ((i23 : Int)) = true) from (f_holds (by omega) (by omega)).symm)) ?_
      refine k_if_eq (tgt := 60) dX1_fewestMovesByTrial_35 rfl (zb_kr _) (fun h_5 => ?_) (fun h_5 => ?_)
      · have h_5 := zb_0.mp h_5
        refine k_iinc (ls' := [(0, .ref 14), (1, .int (iI (s))), (2, .int (iI (f))), (3, .int (iI (z_and (f) (f_open σ s)))), (4, .int (iI ((i14 : Int)))), (5, .int (iI ((i23 : Int) + 1)))]) dX1_fewestMovesByTrial_60 5 rfl (by decide) rfl rfl ?_
        refine k_goto (tgt := 23) dX1_fewestMovesByTrial_63 rfl ?_
        exact ih23 (k_Jstep (P := (fun e : Nat => z_bit (z_and f (f_open σ s)) (e : Int) && g_lead σ s i14 (e : Int) (z_one (e : Int)))) hJ23 (by simp [h_5]))
      · have h_5 := zb_n0.mp h_5
        refine k_aload_n dX1_fewestMovesByTrial_38 0 rfl rfl (by decide) ?_
        refine k_get (kf := 0) (v := .ref 1) dX1_fewestMovesByTrial_39 kcX1 w_218 (by decide) (by decide) (s_14 hsh) rfl rfl ?_
        refine k_iload_n dX1_fewestMovesByTrial_42 1 rfl rfl ?_
        refine k_iload dX1_fewestMovesByTrial_43 5 rfl ?_
        refine k_iload dX1_fewestMovesByTrial_45 4 rfl ?_
        refine k_iconst (v := 1) dX1_fewestMovesByTrial_47 rfl ?_
        refine k_iload dX1_fewestMovesByTrial_48 5 rfl ?_
        refine k_ishl (v := (iI (z_one ((i23 : Int))))) dX1_fewestMovesByTrial_50 (z_oneI (by omega) (by omega)) ?_
        refine k_callSr (st := []) (as := [.ref 1, .int (iI (s)), .int (iI ((i23 : Int))), .int (iI ((i14 : Int))), .int (iI (z_one ((i23 : Int))))]) dX1_fewestMovesByTrial_51 oX1_leadsToRoom w_1214 w_1215 rfl (by omega) rfl (Nat.le_of_ble_eq_true rfl) (c_leadsToRoom hsh hI ⟨by omega, by omega⟩ i14 (by omega) ((i23 : Int)) (z_one ((i23 : Int))) ⟨by omega, by omega⟩ ⟨by omega, by omega⟩) ?_
        refine k_if_eq (tgt := 60) dX1_fewestMovesByTrial_54 rfl (zb_kr _) (fun h_6 => ?_) (fun h_6 => ?_)
        · have h_6 := zb_0.mp h_6
          refine k_iinc (ls' := [(0, .ref 14), (1, .int (iI (s))), (2, .int (iI (f))), (3, .int (iI (z_and (f) (f_open σ s)))), (4, .int (iI ((i14 : Int)))), (5, .int (iI ((i23 : Int) + 1)))]) dX1_fewestMovesByTrial_60 5 rfl (by decide) rfl rfl ?_
          refine k_goto (tgt := 23) dX1_fewestMovesByTrial_63 rfl ?_
          exact ih23 (k_Jstep (P := (fun e : Nat => z_bit (z_and f (f_open σ s)) (e : Int) && g_lead σ s i14 (e : Int) (z_one (e : Int)))) hJ23 (by simp [h_5, h_6]))
        · have h_6 := zb_n0.mp h_6
          refine k_iload dX1_fewestMovesByTrial_57 4 rfl ?_
          exact k_reti dX1_fewestMovesByTrial_59 rfl rfl (by exact (z_first_some (P := (fun m : Nat => z_any 4 (fun e => z_bit (z_and f (f_open σ s)) (e : Int) && g_lead σ s m (e : Int) (z_one (e : Int))))) (by show z_any 4 _ = true; exact z_any_t (P := (fun e : Nat => z_bit (z_and f (f_open σ s)) (e : Int) && g_lead σ s i14 (e : Int) (z_one (e : Int)))) (by simp [h_5, h_6]) 4 hi23) hJ14 4 hi14).symm)
def f_reason (σ : Nat → Nat → Int) (s f : Int) : Int := if f_open σ s = 0 then 1 else if z_and (f_open σ s) f = 0 then 2 else 3
set_option maxHeartbeats 4000000 in
theorem c_reasonAgainst (hsh : k_Main sh) (hI : k_Ty σ) {s f : Int} (hs : -2147483648 ≤ s ∧ s < 2147483648) (hf : -2147483648 ≤ f ∧ f < 2147483648) (hf0 : 0 ≤ f ∧ f < 65536) : k_C E mX1_reasonAgainst 4 [.ref 14, .int (iI (s)), .int (iI (f))] sh σ 0 0 (k_ret (some (.int (iI (f_reason σ s f)))) sh σ) := by
  refine k_C_of (ls0 := [(0, .ref 14), (1, .int (iI (s))), (2, .int (iI (f)))]) rfl pnX1 (fun v hv => k_cat1 rfl hv) (Nat.le_of_ble_eq_true rfl) rfl ?_
  obtain ⟨t0, t1, t2, t3, t4, t5, t6, t7, t8, t9, t10, t11⟩ := id hI
  have q1 := f_open_r hI s
  have q2 := z_and_nn (f_open σ s) f
  have q2b := z_and_le (f_open σ s) f q1.1
  refine k_aload_n dX1_reasonAgainst_0 0 rfl rfl (by decide) ?_
  refine k_get (kf := 0) (v := .ref 1) dX1_reasonAgainst_1 kcX1 w_218 (by decide) (by decide) (s_14 hsh) rfl rfl ?_
  refine k_iload_n dX1_reasonAgainst_4 1 rfl rfl ?_
  refine k_callVr (st := []) (as := [.int (iI (s))]) dX1_reasonAgainst_5 oX5_openBlocks w_694 w_484 w_485 rfl (by omega) rfl (Nat.le_of_ble_eq_true rfl) (by decide) (s_1 hsh) rfl (c_openBlocks hsh hI ⟨by omega, by omega⟩) ?_
  refine k_istore_n (ls' := [(0, .ref 14), (1, .int (iI (s))), (2, .int (iI (f))), (3, .int (iI (f_open σ s)))]) dX1_reasonAgainst_8 rfl (by decide) rfl rfl ?_
  refine k_iload_n dX1_reasonAgainst_9 3 rfl rfl ?_
  refine k_if_ne (tgt := 15) dX1_reasonAgainst_10 rfl ⟨by omega, by omega⟩ (fun h_1 => ?_) (fun h_1 => ?_)
  · refine k_iload_n dX1_reasonAgainst_15 3 rfl rfl ?_
    refine k_iload_n dX1_reasonAgainst_16 2 rfl rfl ?_
    refine k_iand (v := (iI (z_and (f_open σ s) (f)))) dX1_reasonAgainst_17 (z_andI (by omega) (by omega)) ?_
    refine k_if_ne (tgt := 25) dX1_reasonAgainst_18 rfl ⟨by omega, by omega⟩ (fun h_2 => ?_) (fun h_2 => ?_)
    · refine k_iconst (v := 3) dX1_reasonAgainst_25 rfl ?_
      exact k_reti dX1_reasonAgainst_26 rfl rfl (by unfold f_reason; first | exact (if_pos (by assumption)).symm | (rw [if_neg (by assumption)]; first | exact (if_pos (by assumption)).symm | exact (if_neg (by assumption)).symm))
    · refine k_iconst (v := 2) dX1_reasonAgainst_21 rfl ?_
      refine k_goto (tgt := 26) dX1_reasonAgainst_22 rfl ?_
      exact k_reti dX1_reasonAgainst_26 rfl rfl (by unfold f_reason; first | exact (if_pos (by assumption)).symm | (rw [if_neg (by assumption)]; first | exact (if_pos (by assumption)).symm | exact (if_neg (by assumption)).symm))
  · refine k_iconst (v := 1) dX1_reasonAgainst_13 rfl ?_
    exact k_reti dX1_reasonAgainst_14 rfl rfl (by unfold f_reason; first | exact (if_pos (by assumption)).symm | (rw [if_neg (by assumption)]; first | exact (if_pos (by assumption)).symm | exact (if_neg (by assumption)).symm))
end K_R
