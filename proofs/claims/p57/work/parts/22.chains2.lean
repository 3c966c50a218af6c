/-! ===== CHAINS, second part: the searches and the carrying out ===== -/
section K_Q
variable {E : k_E} {sh : List k_Sh} {σ : Nat → Nat → Int}
/-- the member of a set before which there are so many lower ones -/
def g_memb (x l : Int) : Int := z_first 16 (fun i => z_bit x (i : Int) && decide (z_cntn x i = l))
theorem g_memb_r (x l : Int) : -1 ≤ g_memb x l ∧ g_memb x l < 16 := z_first_r _ 16
theorem z_cntn_s (x : Int) (n : Nat) : z_cntn x (n + 1) = z_cntn x n + zb (z_bit x (n : Int) = true) := rfl
set_option maxHeartbeats 4000000 in
theorem c_memberAt {x l : Int} (hx : -2147483648 ≤ x ∧ x < 2147483648) (hl : -2147483648 ≤ l ∧ l < 2147483648) (hx0 : 0 ≤ x ∧ x < 65536) (hl0 : -100 ≤ l ∧ l ≤ 100) : k_C E mX7_memberAt 2 [.int (iI (x)), .int (iI (l))] sh σ 0 0 (k_ret (some (.int (iI (g_memb x l)))) sh σ) := by
  refine k_C_of (ls0 := [(0, .int (iI (x))), (1, .int (iI (l)))]) rfl pnX7 (fun v hv => k_cat1 rfl hv) (Nat.le_of_ble_eq_true rfl) rfl ?_
  refine k_iload_n dX7_memberAt_0 1 rfl rfl ?_
  refine k_istore_n (ls' := [(0, .int (iI (x))), (1, .int (iI (l))), (2, .int (iI (l)))]) dX7_memberAt_1 rfl (by decide) rfl rfl ?_
  refine k_iconst (v := 0) dX7_memberAt_2 rfl ?_
  refine k_istore_n (ls' := [(0, .int (iI (x))), (1, .int (iI (l))), (2, .int (iI (l))), (3, .int (iI (0)))]) dX7_memberAt_3 rfl (by decide) rfl rfl ?_
  refine k_lrw (q := 2) (j := 2) (a' := l - z_cntn x 0) (ls' := [(0, .int (iI (x))), (1, .int (iI (l))), (2, .int (iI (l - z_cntn x 0))), (3, .int (iI (0)))]) rfl (by show l = l - 0; omega) rfl ?_
  refine k_downI (P := fun i4 : Nat => k_V E mX7_memberAt _ 4 [(0, .int (iI (x))), (1, .int (iI (l))), (2, .int (iI (l - z_cntn x i4))), (3, .int (iI ((i4 : Int))))] [] sh σ _ _ _) (J := fun i4 : Nat => ∀ j, j < i4 → (fun i : Nat => z_bit x (i : Int) && decide (z_cntn x i = l)) j = false) (16) (fun j hj => absurd hj (Nat.not_lt_zero j)) ?_ ?_
  · intro hJ4
    have q1 := z_cntn_r x (16)
    refine k_iload_n dX7_memberAt_4 3 rfl rfl ?_
    refine k_bipush (v := 16) dX7_memberAt_5 (by decide) ?_
    refine k_icmp_ge (tgt := 33) dX7_memberAt_7 rfl ⟨by omega, by omega⟩ ⟨by decide, by decide⟩ (fun h_1 => ?_) (fun h_1 => absurd h_1 (by omega))
    refine k_iconst (v := (-1)) dX7_memberAt_33 rfl ?_
    exact k_reti dX7_memberAt_34 rfl rfl (by exact (z_first_none (P := (fun i : Nat => z_bit x (i : Int) && decide (z_cntn x i = l))) 16 hJ4).symm)
  · intro i4 hi4 hJ4 ih4
    have q1 := z_cntn_r x i4
    refine k_iload_n dX7_memberAt_4 3 rfl rfl ?_
    refine k_bipush (v := 16) dX7_memberAt_5 (by decide) ?_
    refine k_icmp_ge (tgt := 33) dX7_memberAt_7 rfl ⟨by omega, by omega⟩ ⟨by decide, by decide⟩ (fun h_2 => absurd h_2 (by omega)) (fun h_2 => ?_)
    refine k_iload_n dX7_memberAt_10 0 rfl rfl ?_
    refine k_iload_n dX7_memberAt_11 3 rfl rfl ?_
    refine k_callSr (st := []) (as := [.int (iI (x)), .int (iI ((i4 : Int)))]) dX7_memberAt_12 oX7_holds w_868 w_463 rfl (by omega) rfl (Nat.le_of_ble_eq_true rfl) (c_holds (by omega) (by omega)) ?_
    refine k_eqst (congrArg (fun z : Int => Value.int (iI z) :: []) (show zb (z_bit (x) ((i4 : Int)) = true) = zb (0 ≤ ((i4 : Int)) ∧ ((i4 : Int)) < 16 ∧ z_bit (x) ((i4 : Int)) = true) from (f_holds (by omega) (by omega)).symm)) ?_
    refine k_if_eq (tgt := 27) dX7_memberAt_15 rfl (zb_kr _) (fun h_3 => ?_) (fun h_3 => ?_)
    · have h_3 := zb_0.mp h_3
      refine k_iinc (ls' := [(0, .int (iI (x))), (1, .int (iI (l))), (2, .int (iI (l - z_cntn x i4))), (3, .int (iI ((i4 : Int) + 1)))]) dX7_memberAt_27 3 rfl (by decide) rfl rfl ?_
      refine k_goto (tgt := 4) dX7_memberAt_30 rfl ?_
      refine k_lrw (q := 2) (j := 2) (a' := l - z_cntn x (i4 + 1)) (ls' := [(0, .int (iI (x))), (1, .int (iI (l))), (2, .int (iI (l - z_cntn x (i4 + 1)))), (3, .int (iI ((i4 : Int) + 1)))]) rfl (by rw [z_cntn_s, zb_f h_3]; omega) rfl ?_
      exact ih4 (k_Jstep (P := (fun i : Nat => z_bit x (i : Int) && decide (z_cntn x i = l))) hJ4 (by simp [h_3]))
    · have h_3 := zb_n0.mp h_3
      refine k_iload_n dX7_memberAt_18 2 rfl rfl ?_
      refine k_if_ne (tgt := 24) dX7_memberAt_19 rfl ⟨by omega, by omega⟩ (fun h_4 => ?_) (fun h_4 => ?_)
      · refine k_iinc (ls' := [(0, .int (iI (x))), (1, .int (iI (l))), (2, .int (iI (l - z_cntn x i4 + (-1)))), (3, .int (iI ((i4 : Int))))]) dX7_memberAt_24 2 rfl (by decide) rfl rfl ?_
        refine k_iinc (ls' := [(0, .int (iI (x))), (1, .int (iI (l))), (2, .int (iI (l - z_cntn x i4 + (-1)))), (3, .int (iI ((i4 : Int) + 1)))]) dX7_memberAt_27 3 rfl (by decide) rfl rfl ?_
        refine k_goto (tgt := 4) dX7_memberAt_30 rfl ?_
        refine k_lrw (q := 2) (j := 2) (a' := l - z_cntn x (i4 + 1)) (ls' := [(0, .int (iI (x))), (1, .int (iI (l))), (2, .int (iI (l - z_cntn x (i4 + 1)))), (3, .int (iI ((i4 : Int) + 1)))]) rfl (by rw [z_cntn_s, zb_t h_3]; omega) rfl ?_
        exact ih4 (k_Jstep (P := (fun i : Nat => z_bit x (i : Int) && decide (z_cntn x i = l))) hJ4 (by simp [h_3]; omega))
      · refine k_iload_n dX7_memberAt_22 3 rfl rfl ?_
        exact k_reti dX7_memberAt_23 rfl rfl (by exact (z_first_some (P := (fun i : Nat => z_bit x (i : Int) && decide (z_cntn x i = l))) (by simp [h_3]; omega) hJ4 16 hi4).symm)
def u_lookN (σ : Nat → Nat → Int) (s : Int) (n : Nat) : Nat → Nat → Int := k_up (k_up (k_up σ 15 (k_fold n (fun b g => k_u1 g b (f_roster σ s (b : Int))) (σ 15))) 16 (k_fold n (fun b g => k_u1 g b (f_busy σ (b : Int))) (σ 16))) 17 (k_fold n (fun b g => k_u1 g b (if z_bit (f_roomy σ s 0) (b : Int) = true then 0 else -1)) (σ 17))
theorem u_lookN_pl (s : Int) (n : Nat) : k_PlEq (u_lookN σ s n) σ := ((k_PlEq.refl.up (by decide)).up (by decide)).up (by decide)
theorem k_foldu {P : Int → Prop} {f : Nat → Int} {g : Nat → Int} (h0 : ∀ j, P (g j)) (h1 : ∀ b, P (f b)) (n : Nat) : ∀ j, P (k_fold n (fun b g => k_u1 g b (f b)) g j) :=
  k_fold_inv (P := fun g : Nat → Int => ∀ j, P (g j)) h0 (fun b g hg j => by
    unfold k_u1
    split
    · exact h1 b
    · exact hg j) n
theorem u_lookN_ch (hI : k_Ty σ) (hC : k_Ch σ) (s : Int) (n : Nat) : k_Ch (u_lookN σ s n) := by
  refine ⟨k_foldu (P := fun z => 0 ≤ z ∧ z < 4096) hC.1 (fun b => f_roster_r hI s _) n, k_foldu (P := fun z => 0 ≤ z ∧ z < 4096) hC.2.1 (fun b => f_busy_r hI _) n, k_foldu (P := fun z => -1 ≤ z ∧ z ≤ 3) hC.2.2 (fun b => ?_) n⟩
  split <;> decide
/-- the distances measured up to n moves -/
def g_dist (ro bu di : Nat → Int) (n : Nat) : Nat → Int := k_fold n (fun m g => g_meas ro bu ((m : Int) + 1) g) di
def u_fewN (σ : Nat → Nat → Int) (s : Int) (n : Nat) : Nat → Nat → Int := k_up (u_lookN σ s 4) 17 (g_dist (u_lookN σ s 4 15) (u_lookN σ s 4 16) (u_lookN σ s 4 17) n)
def u_few (σ : Nat → Nat → Int) (s : Int) : Nat → Nat → Int := u_fewN σ s 3
theorem u_fewN_ch (hI : k_Ty σ) (hC : k_Ch σ) (s : Int) : ∀ n, n ≤ 3 → k_Ch (u_fewN σ s n) := by
  have h := u_lookN_ch hI hC s 4
  intro n hn
  refine ⟨h.1, h.2.1, ?_⟩
  show ∀ j, -1 ≤ (k_fold n _ _ : Nat → Int) j ∧ (k_fold n _ _ : Nat → Int) j ≤ 3
  induction n with
  | zero => exact h.2.2
  | succ n ih => exact g_measN_r (ih (by omega)) (by omega) 4
theorem u_fewN_pl (s : Int) (n : Nat) : k_PlEq (u_fewN σ s n) σ := (u_lookN_pl s 4).up (by decide)
def f_few (σ : Nat → Nat → Int) (s f : Int) : Int := f_read (u_few σ s 17) 4 (g_near (u_few σ s 17) f)
set_option maxHeartbeats 4000000 in
theorem c_fewestMoves (hsh : k_Main sh) (hI : k_Ty σ) (hC : k_Ch σ) {s f : Int} (hs : -2147483648 ≤ s ∧ s < 2147483648) (hf : -2147483648 ≤ f ∧ f < 2147483648) (hf0 : 0 ≤ f ∧ f < 65536) : k_C E mX1_fewestMoves 5 [.ref 14, .int (iI (s)), .int (iI (f))] sh σ 0 0 (k_ret (some (.int (iI (f_few σ s f)))) sh (u_few σ s)) := by
  refine k_C_of (ls0 := [(0, .ref 14), (1, .int (iI (s))), (2, .int (iI (f)))]) rfl pnX1 (fun v hv => k_cat1 rfl hv) (Nat.le_of_ble_eq_true rfl) rfl ?_
  obtain ⟨t0, t1, t2, t3, t4, t5, t6, t7, t8, t9, t10, t11⟩ := id hI
  obtain ⟨c0, c1, c2⟩ := id hC
  have q1 := f_roomy_r σ hI s 0
  refine k_aload_n dX1_fewestMoves_0 0 rfl rfl (by decide) ?_
  refine k_get (kf := 0) (v := .ref 1) dX1_fewestMoves_1 kcX1 w_218 (by decide) (by decide) (s_14 hsh) rfl rfl ?_
  refine k_iload_n dX1_fewestMoves_4 1 rfl rfl ?_
  refine k_iconst (v := 0) dX1_fewestMoves_5 rfl ?_
  refine k_callVr (st := []) (as := [.int (iI (s)), .int (iI (0))]) dX1_fewestMoves_6 oX5_roomyBlocks w_668 w_480 w_481 rfl (by omega) rfl (Nat.le_of_ble_eq_true rfl) (by decide) (s_1 hsh) rfl (c_roomyBlocks hsh hI ⟨by omega, by omega⟩ ⟨by omega, by omega⟩ (by omega)) ?_
  refine k_istore_n (ls' := [(0, .ref 14), (1, .int (iI (s))), (2, .int (iI (f))), (3, .int (iI (f_roomy σ s 0)))]) dX1_fewestMoves_9 rfl (by decide) rfl rfl ?_
  refine k_iconst (v := 0) dX1_fewestMoves_10 rfl ?_
  refine k_istore (ls' := [(0, .ref 14), (1, .int (iI (s))), (2, .int (iI (f))), (3, .int (iI (f_roomy σ s 0))), (4, .int (iI (0)))]) dX1_fewestMoves_11 (by decide) rfl rfl ?_
  refine k_eqσ (σ' := (u_lookN σ s 0)) (by funext i; by_cases e17 : i = 17; (· subst e17; rfl); by_cases e16 : i = 16; (· subst e16; rfl); by_cases e15 : i = 15; (· subst e15; rfl); simp [k_up, u_lookN, e17, e16, e15]) ?_
  refine k_down (P := fun i13 : Nat => k_V E mX1_fewestMoves _ 13 [(0, .ref 14), (1, .int (iI (s))), (2, .int (iI (f))), (3, .int (iI (f_roomy σ s 0))), (4, .int (iI ((i13 : Int))))] [] sh (u_lookN σ s i13) _ _ _) (4) ?_ ?_
  · skip
    have hq := u_lookN_pl (σ := σ) s (4)
    have hC1 := u_lookN_ch hI hC s (4)
    have q1 := f_roomy_r σ hI s 0
    refine k_iload dX1_fewestMoves_13 4 rfl ?_
    refine k_iconst (v := 4) dX1_fewestMoves_15 rfl ?_
    refine k_icmp_ge (tgt := 85) dX1_fewestMoves_16 rfl ⟨by omega, by omega⟩ ⟨by decide, by decide⟩ (fun h_1 => ?_) (fun h_1 => absurd h_1 (by omega))
    refine k_iconst (v := 1) dX1_fewestMoves_85 rfl ?_
    refine k_istore (ls' := [(0, .ref 14), (1, .int (iI (s))), (2, .int (iI (f))), (3, .int (iI (f_roomy σ s 0))), (4, .int (iI (1)))]) dX1_fewestMoves_86 (by decide) rfl rfl ?_
    refine k_eqσ (σ' := (u_fewN σ s 0)) (by funext i; by_cases e17 : i = 17; (· subst e17; rfl); simp [k_up, u_fewN, e17]) ?_
    refine k_down (P := fun i88 : Nat => k_V E mX1_fewestMoves _ 88 [(0, .ref 14), (1, .int (iI (s))), (2, .int (iI (f))), (3, .int (iI (f_roomy σ s 0))), (4, .int (iI (1 + (i88 : Int))))] [] sh (u_fewN σ s i88) _ _ _) (3) ?_ ?_
    · skip
      have hq := u_fewN_pl (σ := σ) s (3)
      have hD := u_fewN_ch hI hC s (3) (by omega)
      refine k_iload dX1_fewestMoves_88 4 rfl ?_
      refine k_iconst (v := 4) dX1_fewestMoves_90 rfl ?_
      refine k_icmp_ge (tgt := 106) dX1_fewestMoves_91 rfl ⟨by omega, by omega⟩ ⟨by decide, by decide⟩ (fun h_2 => ?_) (fun h_2 => absurd h_2 (by omega))
      refine k_aload_n dX1_fewestMoves_106 0 rfl rfl (by decide) ?_
      refine k_get (kf := 3) (v := .ref 17) dX1_fewestMoves_107 kcX1 w_221 (by decide) (by decide) (s_14 hsh) rfl rfl ?_
      refine k_aload_n dX1_fewestMoves_110 0 rfl rfl (by decide) ?_
      refine k_iload_n dX1_fewestMoves_111 2 rfl rfl ?_
      refine k_callVr (st := [.ref 17]) (as := [.int (iI (f))]) dX1_fewestMoves_112 oX1_nearest w_682 w_684 w_17 rfl (by omega) rfl (Nat.le_of_ble_eq_true rfl) (by decide) (s_14 hsh) rfl (c_nearest hsh hD ⟨by omega, by omega⟩ (by omega)) ?_
      have q2 : -1 ≤ g_near (u_fewN σ s 3 17) f ∧ g_near (u_fewN σ s 3 17) f < 4 := g_nearN_r (u_fewN σ s 3 17) f 4
      refine k_callSNr (st := []) (as := [.ref 17, .int (iI (g_near ((u_fewN σ s (3)) 17) f))]) dX1_fewestMoves_115 oX7_read w_677 w_460 rfl (by omega) rfl (Nat.le_of_ble_eq_true rfl) (c_read (by decide) (s_17 hsh) (by decide) (by omega)) ?_
      exact k_reti dX1_fewestMoves_118 rfl rfl (by rfl)
    · intro i88 hi88 ih88
      have hq := u_fewN_pl (σ := σ) s i88
      have hD := u_fewN_ch hI hC s i88 (by omega)
      refine k_iload dX1_fewestMoves_88 4 rfl ?_
      refine k_iconst (v := 4) dX1_fewestMoves_90 rfl ?_
      refine k_icmp_ge (tgt := 106) dX1_fewestMoves_91 rfl ⟨by omega, by omega⟩ ⟨by decide, by decide⟩ (fun h_3 => absurd h_3 (by omega)) (fun h_3 => ?_)
      refine k_aload_n dX1_fewestMoves_94 0 rfl rfl (by decide) ?_
      refine k_iload dX1_fewestMoves_95 4 rfl ?_
      refine k_callVr (st := []) (as := [.int (iI (1 + (i88 : Int)))]) dX1_fewestMoves_97 oX1_measure w_673 w_675 w_15 rfl (by omega) rfl (Nat.le_of_ble_eq_true rfl) (by decide) (s_14 hsh) rfl (c_measure hsh hD ⟨by omega, by omega⟩ (by omega)) ?_
      refine k_eqσ (σ' := (u_fewN σ s (i88 + 1))) (by funext i; by_cases e17 : i = 17; (· subst e17; show g_meas _ _ (((i88 : Nat) : Int) + 1) _ = g_meas _ _ (1 + (i88 : Int)) _; rw [Int.add_comm]; rfl); simp [k_up, u_fewN, e17]) ?_
      refine k_iinc (ls' := [(0, .ref 14), (1, .int (iI (s))), (2, .int (iI (f))), (3, .int (iI (f_roomy σ s 0))), (4, .int (iI (1 + (i88 : Int) + 1)))]) dX1_fewestMoves_100 4 rfl (by decide) rfl rfl ?_
      refine k_goto (tgt := 88) dX1_fewestMoves_103 rfl ?_
      refine k_lrw (q := 4) (j := 4) (a' := 1 + ((i88 + 1 : Nat) : Int)) (ls' := [(0, .ref 14), (1, .int (iI (s))), (2, .int (iI (f))), (3, .int (iI (f_roomy σ s 0))), (4, .int (iI (1 + ((i88 + 1 : Nat) : Int))))]) rfl (by omega) rfl ?_
      exact ih88
  · intro i13 hi13 ih13
    have hq := u_lookN_pl (σ := σ) s i13
    have hC1 := u_lookN_ch hI hC s i13
    have q1 := f_roomy_r σ hI s 0
    refine k_iload dX1_fewestMoves_13 4 rfl ?_
    refine k_iconst (v := 4) dX1_fewestMoves_15 rfl ?_
    refine k_icmp_ge (tgt := 85) dX1_fewestMoves_16 rfl ⟨by omega, by omega⟩ ⟨by decide, by decide⟩ (fun h_4 => absurd h_4 (by omega)) (fun h_4 => ?_)
    refine k_aload_n dX1_fewestMoves_19 0 rfl rfl (by decide) ?_
    refine k_get (kf := 1) (v := .ref 15) dX1_fewestMoves_20 kcX1 w_219 (by decide) (by decide) (s_14 hsh) rfl rfl ?_
    refine k_iload dX1_fewestMoves_23 4 rfl ?_
    refine k_aload_n dX1_fewestMoves_25 0 rfl rfl (by decide) ?_
    refine k_get (kf := 0) (v := .ref 1) dX1_fewestMoves_26 kcX1 w_218 (by decide) (by decide) (s_14 hsh) rfl rfl ?_
    refine k_iload_n dX1_fewestMoves_29 1 rfl rfl ?_
    refine k_iload dX1_fewestMoves_30 4 rfl ?_
    refine k_callVr (st := [.int (iI ((i13 : Int))), .ref 15]) (as := [.int (iI (s)), .int (iI ((i13 : Int)))]) dX1_fewestMoves_32 oX5_roster w_669 w_456 w_457 rfl (by omega) rfl (Nat.le_of_ble_eq_true rfl) (by decide) (s_1 hsh) rfl (c_roster hsh (hq.ty hI) ⟨by omega, by omega⟩ ⟨by omega, by omega⟩) ?_
    refine k_eqst (congrArg (fun z : Int => Value.int (iI z) :: [.int (iI ((i13 : Int))), .ref 15]) (show f_roster σ s ((i13 : Int)) = f_roster (u_lookN σ s i13) s ((i13 : Int)) from (hq.roster _ _).symm)) ?_
    refine k_callSNr (st := []) (as := [.ref 15, .int (iI ((i13 : Int))), .int (iI (f_roster σ s ((i13 : Int))))]) dX1_fewestMoves_35 oX7_write w_670 w_498 rfl (by omega) rfl (Nat.le_of_ble_eq_true rfl) (c_writeIn (by decide) (s_15 hsh) (by decide) (by omega) (by omega)) ?_
    refine k_aload_n dX1_fewestMoves_38 0 rfl rfl (by decide) ?_
    refine k_get (kf := 2) (v := .ref 16) dX1_fewestMoves_39 kcX1 w_220 (by decide) (by decide) (s_14 hsh) rfl rfl ?_
    refine k_iload dX1_fewestMoves_42 4 rfl ?_
    refine k_aload_n dX1_fewestMoves_44 0 rfl rfl (by decide) ?_
    refine k_get (kf := 0) (v := .ref 1) dX1_fewestMoves_45 kcX1 w_218 (by decide) (by decide) (s_14 hsh) rfl rfl ?_
    refine k_iload dX1_fewestMoves_48 4 rfl ?_
    refine k_callVr (st := [.int (iI ((i13 : Int))), .ref 16]) (as := [.int (iI ((i13 : Int)))]) dX1_fewestMoves_50 oX5_busyPupils w_671 w_452 w_453 rfl (by omega) rfl (Nat.le_of_ble_eq_true rfl) (by decide) (s_1 hsh) rfl (c_busyPupils hsh ((hq.up (by decide)).ty hI) ⟨by omega, by omega⟩) ?_
    refine k_eqst (congrArg (fun z : Int => Value.int (iI z) :: [.int (iI ((i13 : Int))), .ref 16]) (show f_busy σ ((i13 : Int)) = f_busy (k_up (u_lookN σ s i13) 15 (k_u1 ((u_lookN σ s i13) 15) ((i13 : Int)).toNat (f_roster σ s ((i13 : Int))))) ((i13 : Int)) from (((hq.up (by decide)).busy _).symm))) ?_
    refine k_callSNr (st := []) (as := [.ref 16, .int (iI ((i13 : Int))), .int (iI (f_busy σ ((i13 : Int))))]) dX1_fewestMoves_53 oX7_write w_670 w_498 rfl (by omega) rfl (Nat.le_of_ble_eq_true rfl) (c_writeIn (by decide) (s_16 hsh) (by decide) (by omega) (by omega)) ?_
    refine k_aload_n dX1_fewestMoves_56 0 rfl rfl (by decide) ?_
    refine k_get (kf := 3) (v := .ref 17) dX1_fewestMoves_57 kcX1 w_221 (by decide) (by decide) (s_14 hsh) rfl rfl ?_
    refine k_iload dX1_fewestMoves_60 4 rfl ?_
    refine k_iload_n dX1_fewestMoves_62 3 rfl rfl ?_
    refine k_iload dX1_fewestMoves_63 4 rfl ?_
    refine k_callSNr (st := [.int (iI ((i13 : Int))), .ref 17]) (as := [.int (iI (f_roomy σ s 0)), .int (iI ((i13 : Int)))]) dX1_fewestMoves_65 oX7_holds w_672 w_463 rfl (by omega) rfl (Nat.le_of_ble_eq_true rfl) (c_holds (by omega) (by omega)) ?_
    refine k_eqst (congrArg (fun z : Int => Value.int (iI z) :: [.int (iI ((i13 : Int))), .ref 17]) (show zb (z_bit (f_roomy σ s 0) ((i13 : Int)) = true) = zb (0 ≤ ((i13 : Int)) ∧ ((i13 : Int)) < 16 ∧ z_bit (f_roomy σ s 0) ((i13 : Int)) = true) from (f_holds (by omega) (by omega)).symm)) ?_
    refine k_if_eq (tgt := 75) dX1_fewestMoves_68 rfl (zb_kr _) (fun h_5 => ?_) (fun h_5 => ?_)
    · have h_5 := zb_0.mp h_5
      refine k_iconst (v := (-1)) dX1_fewestMoves_75 rfl ?_
      refine k_callSNr (st := []) (as := [.ref 17, .int (iI ((i13 : Int))), .int (iI (-1))]) dX1_fewestMoves_76 oX7_write w_670 w_498 rfl (by omega) rfl (Nat.le_of_ble_eq_true rfl) (c_writeIn (by decide) (s_17 hsh) (by decide) (by omega) (by omega)) ?_
      refine k_iinc (ls' := [(0, .ref 14), (1, .int (iI (s))), (2, .int (iI (f))), (3, .int (iI (f_roomy σ s 0))), (4, .int (iI ((i13 : Int) + 1)))]) dX1_fewestMoves_79 4 rfl (by decide) rfl rfl ?_
      refine k_goto (tgt := 13) dX1_fewestMoves_82 rfl ?_
      refine k_eqσ (σ' := (u_lookN σ s (i13 + 1))) (by funext i; by_cases e17 : i = 17; (· subst e17; show k_u1 (u_lookN σ s i13 17) i13 (if z_bit (f_roomy σ s 0) (i13 : Int) = true then 0 else -1) = k_u1 (u_lookN σ s i13 17) i13 (-1); rw [if_neg h_5]); by_cases e16 : i = 16; (· subst e16; rfl); by_cases e15 : i = 15; (· subst e15; rfl); simp [k_up, u_lookN, e17, e16, e15]) ?_
      exact ih13
    · have h_5 := zb_n0.mp h_5
      refine k_iconst (v := 0) dX1_fewestMoves_71 rfl ?_
      refine k_goto (tgt := 76) dX1_fewestMoves_72 rfl ?_
      refine k_callSNr (st := []) (as := [.ref 17, .int (iI ((i13 : Int))), .int (iI (0))]) dX1_fewestMoves_76 oX7_write w_670 w_498 rfl (by omega) rfl (Nat.le_of_ble_eq_true rfl) (c_writeIn (by decide) (s_17 hsh) (by decide) (by omega) (by omega)) ?_
      refine k_iinc (ls' := [(0, .ref 14), (1, .int (iI (s))), (2, .int (iI (f))), (3, .int (iI (f_roomy σ s 0))), (4, .int (iI ((i13 : Int) + 1)))]) dX1_fewestMoves_79 4 rfl (by decide) rfl rfl ?_
      refine k_goto (tgt := 13) dX1_fewestMoves_82 rfl ?_
      refine k_eqσ (σ' := (u_lookN σ s (i13 + 1))) (by funext i; by_cases e17 : i = 17; (· subst e17; show k_u1 (u_lookN σ s i13 17) i13 (if z_bit (f_roomy σ s 0) (i13 : Int) = true then 0 else -1) = k_u1 (u_lookN σ s i13 17) i13 (0); rw [if_pos h_5]); by_cases e16 : i = 16; (· subst e16; rfl); by_cases e15 : i = 15; (· subst e15; rfl); simp [k_up, u_lookN, e17, e16, e15]) ?_
      exact ih13
end K_Q
