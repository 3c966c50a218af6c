/-! ===== CHAINS ===== -/
section K_P
variable {E : k_E} {sh : List k_Sh} {σ : Nat → Nat → Int}
/-- the lowest block at a distance into which a pupil can move -/
def g_next (ro bu di : Nat → Int) (from_ d : Int) : Int := z_first 4 (fun t => decide (di t = d ∧ z_diff (ro from_.toNat) (bu t) ≠ 0))
theorem g_next_r (ro bu di : Nat → Int) (a d : Int) : -1 ≤ g_next ro bu di a d ∧ g_next ro bu di a d < 4 := z_first_r _ 4
def g_measN (ro bu : Nat → Int) (m : Int) (di : Nat → Int) (n : Nat) : Nat → Int := k_fold n (fun b g => if g b = -1 ∧ g_next ro bu g (b : Int) (m - 1) ≠ -1 then k_u1 g b m else g) di
def g_meas (ro bu : Nat → Int) (m : Int) (di : Nat → Int) : Nat → Int := g_measN ro bu m di 4
def g_nearN (di : Nat → Int) (free : Int) (n : Nat) : Int := k_fold n (fun b a => if (z_bit free (b : Int) = true ∧ di b ≠ -1) ∧ (a = -1 ∨ di b < di a.toNat) then (b : Int) else a) (-1)
def g_near (di : Nat → Int) (free : Int) : Int := g_nearN di free 4
theorem g_nearN_r (di : Nat → Int) (free : Int) : ∀ n : Nat, -1 ≤ g_nearN di free n ∧ g_nearN di free n < n
  | 0 => ⟨Int.le_refl (-1), show (-1 : Int) < 0 by decide⟩
  | n + 1 => by
    have ih := g_nearN_r di free n
    unfold g_nearN at ih
    show -1 ≤ (ite _ _ _ : Int) ∧ (ite _ _ _ : Int) < ((n + 1 : Nat) : Int)
    split <;> omega
/-- distances are from -1 to 3, sets of pupils are sets of pupils -/
def k_Ch (σ : Nat → Nat → Int) : Prop := (∀ j, 0 ≤ σ 15 j ∧ σ 15 j < 4096) ∧ (∀ j, 0 ≤ σ 16 j ∧ σ 16 j < 4096) ∧ (∀ j, -1 ≤ σ 17 j ∧ σ 17 j ≤ 3)
theorem k_Ch_up {a : Nat} {f : Nat → Int} (h : k_Ch σ) (ha : a < 15) : k_Ch (k_up σ a f) := by
  unfold k_Ch at h ⊢
  rw [k_up_ne (by omega), k_up_ne (by omega), k_up_ne (by omega)]
  exact h
theorem g_measN_r {ro bu di : Nat → Int} {m : Int} (h : ∀ j, -1 ≤ di j ∧ di j ≤ 3) (hm : 0 ≤ m ∧ m ≤ 3) (n : Nat) : ∀ j, -1 ≤ g_measN ro bu m di n j ∧ g_measN ro bu m di n j ≤ 3 :=
  k_fold_inv (P := fun g : Nat → Int => ∀ j, -1 ≤ g j ∧ g j ≤ 3) h (fun b g hg j => by
    split
    · unfold k_u1
      split
      · omega
      · exact hg j
    · exact hg j) n

set_option maxHeartbeats 4000000 in
theorem c_nextBlock (hsh : k_Main sh) (hC : k_Ch σ) {a d : Int} (ha : -2147483648 ≤ a ∧ a < 2147483648) (hd : -2147483648 ≤ d ∧ d < 2147483648) (ha0 : 0 ≤ a ∧ a < 4) : k_C E mX1_nextBlock 2 [.ref 14, .int (iI (a)), .int (iI (d))] sh σ 0 0 (k_ret (some (.int (iI (g_next (σ 15) (σ 16) (σ 17) a d)))) sh σ) := by
  refine k_C_of (ls0 := [(0, .ref 14), (1, .int (iI (a))), (2, .int (iI (d)))]) rfl pnX1 (fun v hv => k_cat1 rfl hv) (Nat.le_of_ble_eq_true rfl) rfl ?_
  obtain ⟨c0, c1, c2⟩ := id hC
  refine k_iconst (v := 0) dX1_nextBlock_0 rfl ?_
  refine k_istore_n (ls' := [(0, .ref 14), (1, .int (iI (a))), (2, .int (iI (d))), (3, .int (iI (0)))]) dX1_nextBlock_1 rfl (by decide) rfl rfl ?_
  refine k_downI (P := fun i2 : Nat => k_V E mX1_nextBlock _ 2 [(0, .ref 14), (1, .int (iI (a))), (2, .int (iI (d))), (3, .int (iI ((i2 : Int))))] [] sh σ _ _ _) (J := fun i2 : Nat => ∀ j, j < i2 → (fun t : Nat => decide (σ 17 t = d ∧ z_diff (σ 15 a.toNat) (σ 16 t) ≠ 0)) j = false) (4) (fun j hj => absurd hj (Nat.not_lt_zero j)) ?_ ?_
  · intro hJ2
    have q1 := c0 a.toNat
    have q2 := c1 (4)
    have q3 := c2 (4)
    have q4 := z_diff_nn (σ 15 a.toNat) (σ 16 (4))
    have q5 : z_diff (σ 15 a.toNat) (σ 16 (4)) < 4096 := z_diff_lt 12 q1.2
    refine k_iload_n dX1_nextBlock_2 3 rfl rfl ?_
    refine k_iconst (v := 4) dX1_nextBlock_3 rfl ?_
    refine k_icmp_ge (tgt := 53) dX1_nextBlock_4 rfl ⟨by omega, by omega⟩ ⟨by decide, by decide⟩ (fun h_1 => ?_) (fun h_1 => absurd h_1 (by omega))
    refine k_iconst (v := (-1)) dX1_nextBlock_53 rfl ?_
    exact k_reti dX1_nextBlock_54 rfl rfl (by exact (z_first_none (P := (fun t : Nat => decide (σ 17 t = d ∧ z_diff (σ 15 a.toNat) (σ 16 t) ≠ 0))) 4 hJ2).symm)
  · intro i2 hi2 hJ2 ih2
    have q1 := c0 a.toNat
    have q2 := c1 i2
    have q3 := c2 i2
    have q4 := z_diff_nn (σ 15 a.toNat) (σ 16 i2)
    have q5 : z_diff (σ 15 a.toNat) (σ 16 i2) < 4096 := z_diff_lt 12 q1.2
    refine k_iload_n dX1_nextBlock_2 3 rfl rfl ?_
    refine k_iconst (v := 4) dX1_nextBlock_3 rfl ?_
    refine k_icmp_ge (tgt := 53) dX1_nextBlock_4 rfl ⟨by omega, by omega⟩ ⟨by decide, by decide⟩ (fun h_2 => absurd h_2 (by omega)) (fun h_2 => ?_)
    refine k_aload_n dX1_nextBlock_7 0 rfl rfl (by decide) ?_
    refine k_get (kf := 1) (v := .ref 15) dX1_nextBlock_8 kcX1 w_219 (by decide) (by decide) (s_14 hsh) rfl rfl ?_
    refine k_iload_n dX1_nextBlock_11 1 rfl rfl ?_
    refine k_callSNr (st := []) (as := [.ref 15, .int (iI (a))]) dX1_nextBlock_12 oX7_read w_677 w_460 rfl (by omega) rfl (Nat.le_of_ble_eq_true rfl) (c_readIn (by decide) (s_15 hsh) (by decide) (by omega) (by omega)) ?_
    refine k_aload_n dX1_nextBlock_15 0 rfl rfl (by decide) ?_
    refine k_get (kf := 2) (v := .ref 16) dX1_nextBlock_16 kcX1 w_220 (by decide) (by decide) (s_14 hsh) rfl rfl ?_
    refine k_iload_n dX1_nextBlock_19 3 rfl rfl ?_
    refine k_callSNr (st := [.int (iI (σ 15 (a).toNat))]) (as := [.ref 16, .int (iI ((i2 : Int)))]) dX1_nextBlock_20 oX7_read w_677 w_460 rfl (by omega) rfl (Nat.le_of_ble_eq_true rfl) (c_readIn (by decide) (s_16 hsh) (by decide) (by omega) (by omega)) ?_
    refine k_eqst (congrArg (fun z : Int => Value.int (iI z) :: [.int (iI (σ 15 (a).toNat))]) (show σ 16 i2 = σ 16 ((i2 : Int)).toNat from rfl)) ?_
    refine k_iconst (v := (-1)) dX1_nextBlock_23 rfl ?_
    refine k_ixor (v := (iI (σ 16 i2) ^^^ iI (-1))) dX1_nextBlock_24 rfl ?_
    refine k_iand (v := (iI (z_diff (σ 15 (a).toNat) (σ 16 i2)))) dX1_nextBlock_25 (z_diffI (by omega) (by omega) (by omega)) ?_
    refine k_istore (ls' := [(0, .ref 14), (1, .int (iI (a))), (2, .int (iI (d))), (3, .int (iI ((i2 : Int)))), (4, .int (iI (z_diff (σ 15 (a).toNat) (σ 16 i2))))]) dX1_nextBlock_26 (by decide) rfl rfl ?_
    refine k_aload_n dX1_nextBlock_28 0 rfl rfl (by decide) ?_
    refine k_get (kf := 3) (v := .ref 17) dX1_nextBlock_29 kcX1 w_221 (by decide) (by decide) (s_14 hsh) rfl rfl ?_
    refine k_iload_n dX1_nextBlock_32 3 rfl rfl ?_
    refine k_callSNr (st := []) (as := [.ref 17, .int (iI ((i2 : Int)))]) dX1_nextBlock_33 oX7_read w_677 w_460 rfl (by omega) rfl (Nat.le_of_ble_eq_true rfl) (c_readIn (by decide) (s_17 hsh) (by decide) (by omega) (by omega)) ?_
    refine k_eqst (congrArg (fun z : Int => Value.int (iI z) :: []) (show σ 17 i2 = σ 17 ((i2 : Int)).toNat from rfl)) ?_
    refine k_iload_n dX1_nextBlock_36 2 rfl rfl ?_
    refine k_icmp_ne (tgt := 47) dX1_nextBlock_37 rfl ⟨by omega, by omega⟩ ⟨by omega, by omega⟩ (fun h_3 => ?_) (fun h_3 => ?_)
    · refine k_iinc (ls' := [(0, .ref 14), (1, .int (iI (a))), (2, .int (iI (d))), (3, .int (iI ((i2 : Int) + 1))), (4, .int (iI (z_diff (σ 15 (a).toNat) (σ 16 i2))))]) dX1_nextBlock_47 3 rfl (by decide) rfl rfl ?_
      refine k_goto (tgt := 2) dX1_nextBlock_50 rfl ?_
      refine k_dropr (ls' := [(0, .ref 14), (1, .int (iI (a))), (2, .int (iI (d))), (3, .int (iI ((i2 : Int) + 1)))]) (ex := [(4, .int (iI (z_diff (σ 15 (a).toNat) (σ 16 i2))))]) rfl ?_
      exact ih2 (k_Jstep (P := (fun t : Nat => decide (σ 17 t = d ∧ z_diff (σ 15 a.toNat) (σ 16 t) ≠ 0))) hJ2 (by simp; omega))
    · refine k_iload dX1_nextBlock_40 4 rfl ?_
      refine k_if_eq (tgt := 47) dX1_nextBlock_42 rfl ⟨by omega, by omega⟩ (fun h_4 => ?_) (fun h_4 => ?_)
      · refine k_iinc (ls' := [(0, .ref 14), (1, .int (iI (a))), (2, .int (iI (d))), (3, .int (iI ((i2 : Int) + 1))), (4, .int (iI (z_diff (σ 15 (a).toNat) (σ 16 i2))))]) dX1_nextBlock_47 3 rfl (by decide) rfl rfl ?_
        refine k_goto (tgt := 2) dX1_nextBlock_50 rfl ?_
        refine k_dropr (ls' := [(0, .ref 14), (1, .int (iI (a))), (2, .int (iI (d))), (3, .int (iI ((i2 : Int) + 1)))]) (ex := [(4, .int (iI (z_diff (σ 15 (a).toNat) (σ 16 i2))))]) rfl ?_
        exact ih2 (k_Jstep (P := (fun t : Nat => decide (σ 17 t = d ∧ z_diff (σ 15 a.toNat) (σ 16 t) ≠ 0))) hJ2 (by simp; omega))
      · refine k_iload_n dX1_nextBlock_45 3 rfl rfl ?_
        exact k_reti dX1_nextBlock_46 rfl rfl (by exact (z_first_some (P := (fun t : Nat => decide (σ 17 t = d ∧ z_diff (σ 15 a.toNat) (σ 16 t) ≠ 0))) (by simp; omega) hJ2 4 hi2).symm)
set_option maxHeartbeats 4000000 in
theorem c_measure (hsh : k_Main sh) (hC : k_Ch σ) {m : Int} (hm : -2147483648 ≤ m ∧ m < 2147483648) (hm0 : 1 ≤ m ∧ m ≤ 3) : k_C E mX1_measure 3 [.ref 14, .int (iI (m))] sh σ 0 0 (k_ret none sh (k_up σ 17 (g_meas (σ 15) (σ 16) m (σ 17)))) := by
  refine k_C_of (ls0 := [(0, .ref 14), (1, .int (iI (m)))]) rfl pnX1 (fun v hv => k_cat1 rfl hv) (Nat.le_of_ble_eq_true rfl) rfl ?_
  obtain ⟨c0, c1, c2⟩ := id hC
  refine k_iconst (v := 0) dX1_measure_0 rfl ?_
  refine k_istore_n (ls' := [(0, .ref 14), (1, .int (iI (m))), (2, .int (iI (0)))]) dX1_measure_1 rfl (by decide) rfl rfl ?_
  refine k_eqσ (σ' := (k_up σ 17 (g_measN (σ 15) (σ 16) m (σ 17) 0))) (k_up_self _ 17) ?_
  refine k_down (P := fun i2 : Nat => k_V E mX1_measure _ 2 [(0, .ref 14), (1, .int (iI (m))), (2, .int (iI ((i2 : Int))))] [] sh (k_up σ 17 (g_measN (σ 15) (σ 16) m (σ 17) i2)) _ _ _) (4) ?_ ?_
  · skip
    have hC1 := g_measN_r (ro := σ 15) (bu := σ 16) (m := m) c2 (by omega) (4)
    have hC : k_Ch (k_up σ 17 (g_measN (σ 15) (σ 16) m (σ 17) (4))) := ⟨c0, c1, hC1⟩
    have q1 := hC1 (4)
    have q2 := g_next_r (σ 15) (σ 16) (g_measN (σ 15) (σ 16) m (σ 17) (4)) ((4) : Int) (m - 1)
    refine k_iload_n dX1_measure_2 2 rfl rfl ?_
    refine k_iconst (v := 4) dX1_measure_3 rfl ?_
    refine k_icmp_ge (tgt := 46) dX1_measure_4 rfl ⟨by omega, by omega⟩ ⟨by decide, by decide⟩ (fun h_1 => ?_) (fun h_1 => absurd h_1 (by omega))
    exact k_retv dX1_measure_46 rfl rfl
  · intro i2 hi2 ih2
    have hC1 := g_measN_r (ro := σ 15) (bu := σ 16) (m := m) c2 (by omega) i2
    have hC : k_Ch (k_up σ 17 (g_measN (σ 15) (σ 16) m (σ 17) i2)) := ⟨c0, c1, hC1⟩
    have q1 := hC1 i2
    have q2 := g_next_r (σ 15) (σ 16) (g_measN (σ 15) (σ 16) m (σ 17) i2) (i2 : Int) (m - 1)
    refine k_iload_n dX1_measure_2 2 rfl rfl ?_
    refine k_iconst (v := 4) dX1_measure_3 rfl ?_
    refine k_icmp_ge (tgt := 46) dX1_measure_4 rfl ⟨by omega, by omega⟩ ⟨by decide, by decide⟩ (fun h_2 => absurd h_2 (by omega)) (fun h_2 => ?_)
    refine k_aload_n dX1_measure_7 0 rfl rfl (by decide) ?_
    refine k_get (kf := 3) (v := .ref 17) dX1_measure_8 kcX1 w_221 (by decide) (by decide) (s_14 hsh) rfl rfl ?_
    refine k_iload_n dX1_measure_11 2 rfl rfl ?_
    refine k_callSNr (st := []) (as := [.ref 17, .int (iI ((i2 : Int)))]) dX1_measure_12 oX7_read w_677 w_460 rfl (by omega) rfl (Nat.le_of_ble_eq_true rfl) (c_readIn (by decide) (s_17 hsh) (by decide) (by omega) (by omega)) ?_
    refine k_eqst (congrArg (fun z : Int => Value.int (iI z) :: []) (show g_measN (σ 15) (σ 16) m (σ 17) i2 i2 = (k_up σ 17 (g_measN (σ 15) (σ 16) m (σ 17) i2)) 17 ((i2 : Int)).toNat from rfl)) ?_
    refine k_iconst (v := (-1)) dX1_measure_15 rfl ?_
    refine k_icmp_ne (tgt := 40) dX1_measure_16 rfl ⟨by omega, by omega⟩ ⟨by decide, by decide⟩ (fun h_3 => ?_) (fun h_3 => ?_)
    · refine k_iinc (ls' := [(0, .ref 14), (1, .int (iI (m))), (2, .int (iI ((i2 : Int) + 1)))]) dX1_measure_40 2 rfl (by decide) rfl rfl ?_
      refine k_goto (tgt := 2) dX1_measure_43 rfl ?_
      refine k_eqσ (σ' := (k_up σ 17 (g_measN (σ 15) (σ 16) m (σ 17) (i2 + 1)))) (by show k_up σ 17 (ite _ _ _) = _; rw [if_neg (fun q => h_3 q.1)]; rfl) ?_
      exact ih2
    · refine k_aload_n dX1_measure_19 0 rfl rfl (by decide) ?_
      refine k_iload_n dX1_measure_20 2 rfl rfl ?_
      refine k_iload_n dX1_measure_21 1 rfl rfl ?_
      refine k_iconst (v := 1) dX1_measure_22 rfl ?_
      refine k_isub dX1_measure_23 ?_
      refine k_callVr (st := []) (as := [.int (iI ((i2 : Int))), .int (iI (m - 1))]) dX1_measure_24 oX1_nextBlock w_678 w_680 w_16 rfl (by omega) rfl (Nat.le_of_ble_eq_true rfl) (by decide) (s_14 hsh) rfl (c_nextBlock hsh hC ⟨by omega, by omega⟩ ⟨by omega, by omega⟩ (by omega)) ?_
      refine k_eqst (congrArg (fun z : Int => Value.int (iI z) :: []) (show g_next (σ 15) (σ 16) (g_measN (σ 15) (σ 16) m (σ 17) i2) (i2 : Int) (m - 1) = g_next ((k_up σ 17 (g_measN (σ 15) (σ 16) m (σ 17) i2)) 15) ((k_up σ 17 (g_measN (σ 15) (σ 16) m (σ 17) i2)) 16) ((k_up σ 17 (g_measN (σ 15) (σ 16) m (σ 17) i2)) 17) ((i2 : Int)) (m - 1) from rfl)) ?_
      refine k_iconst (v := (-1)) dX1_measure_27 rfl ?_
      refine k_icmp_eq (tgt := 40) dX1_measure_28 rfl ⟨by omega, by omega⟩ ⟨by decide, by decide⟩ (fun h_4 => ?_) (fun h_4 => ?_)
      · refine k_iinc (ls' := [(0, .ref 14), (1, .int (iI (m))), (2, .int (iI ((i2 : Int) + 1)))]) dX1_measure_40 2 rfl (by decide) rfl rfl ?_
        refine k_goto (tgt := 2) dX1_measure_43 rfl ?_
        refine k_eqσ (σ' := (k_up σ 17 (g_measN (σ 15) (σ 16) m (σ 17) (i2 + 1)))) (by show k_up σ 17 (ite _ _ _) = _; rw [if_neg (fun q => q.2 h_4)]; rfl) ?_
        exact ih2
      · refine k_aload_n dX1_measure_31 0 rfl rfl (by decide) ?_
        refine k_get (kf := 3) (v := .ref 17) dX1_measure_32 kcX1 w_221 (by decide) (by decide) (s_14 hsh) rfl rfl ?_
        refine k_iload_n dX1_measure_35 2 rfl rfl ?_
        refine k_iload_n dX1_measure_36 1 rfl rfl ?_
        refine k_callSNr (st := []) (as := [.ref 17, .int (iI ((i2 : Int))), .int (iI (m))]) dX1_measure_37 oX7_write w_670 w_498 rfl (by omega) rfl (Nat.le_of_ble_eq_true rfl) (c_writeIn (by decide) (s_17 hsh) (by decide) (by omega) (by omega)) ?_
        refine k_iinc (ls' := [(0, .ref 14), (1, .int (iI (m))), (2, .int (iI ((i2 : Int) + 1)))]) dX1_measure_40 2 rfl (by decide) rfl rfl ?_
        refine k_goto (tgt := 2) dX1_measure_43 rfl ?_
        refine k_eqσ (σ' := (k_up σ 17 (g_measN (σ 15) (σ 16) m (σ 17) (i2 + 1)))) (by show k_up σ 17 (ite _ _ _) = _; rw [if_pos ⟨h_3, h_4⟩]; funext i; by_cases e17 : i = 17; (· subst e17; rfl); simp [k_up, e17]) ?_
        exact ih2
set_option maxHeartbeats 4000000 in
theorem c_nearest (hsh : k_Main sh) (hC : k_Ch σ) {f : Int} (hf : -2147483648 ≤ f ∧ f < 2147483648) (hf0 : 0 ≤ f ∧ f < 65536) : k_C E mX1_nearest 2 [.ref 14, .int (iI (f))] sh σ 0 0 (k_ret (some (.int (iI (g_near (σ 17) f)))) sh σ) := by
  refine k_C_of (ls0 := [(0, .ref 14), (1, .int (iI (f)))]) rfl pnX1 (fun v hv => k_cat1 rfl hv) (Nat.le_of_ble_eq_true rfl) rfl ?_
  obtain ⟨c0, c1, c2⟩ := id hC
  refine k_iconst (v := (-1)) dX1_nearest_0 rfl ?_
  refine k_istore_n (ls' := [(0, .ref 14), (1, .int (iI (f))), (2, .int (iI (-1)))]) dX1_nearest_1 rfl (by decide) rfl rfl ?_
  refine k_iconst (v := 0) dX1_nearest_2 rfl ?_
  refine k_istore_n (ls' := [(0, .ref 14), (1, .int (iI (f))), (2, .int (iI (-1))), (3, .int (iI (0)))]) dX1_nearest_3 rfl (by decide) rfl rfl ?_
  refine k_down (P := fun i4 : Nat => k_V E mX1_nearest _ 4 [(0, .ref 14), (1, .int (iI (f))), (2, .int (iI (g_nearN (σ 17) f i4))), (3, .int (iI ((i4 : Int))))] [] sh σ _ _ _) (4) ?_ ?_
  · skip
    have q1 := g_nearN_r (σ 17) f (4)
    have q2 := c2 (4)
    have q3 := c2 (g_nearN (σ 17) f (4)).toNat
    refine k_iload_n dX1_nearest_4 3 rfl rfl ?_
    refine k_iconst (v := 4) dX1_nearest_5 rfl ?_
    refine k_icmp_ge (tgt := 71) dX1_nearest_6 rfl ⟨by omega, by omega⟩ ⟨by decide, by decide⟩ (fun h_1 => ?_) (fun h_1 => absurd h_1 (by omega))
    refine k_iload_n dX1_nearest_71 2 rfl rfl ?_
    exact k_reti dX1_nearest_72 rfl rfl (by rfl)
  · intro i4 hi4 ih4
    have q1 := g_nearN_r (σ 17) f i4
    have q2 := c2 i4
    have q3 := c2 (g_nearN (σ 17) f i4).toNat
    refine k_iload_n dX1_nearest_4 3 rfl rfl ?_
    refine k_iconst (v := 4) dX1_nearest_5 rfl ?_
    refine k_icmp_ge (tgt := 71) dX1_nearest_6 rfl ⟨by omega, by omega⟩ ⟨by decide, by decide⟩ (fun h_2 => absurd h_2 (by omega)) (fun h_2 => ?_)
    refine k_aload_n dX1_nearest_9 0 rfl rfl (by decide) ?_
    refine k_get (kf := 3) (v := .ref 17) dX1_nearest_10 kcX1 w_221 (by decide) (by decide) (s_14 hsh) rfl rfl ?_
    refine k_iload_n dX1_nearest_13 3 rfl rfl ?_
    refine k_callSNr (st := []) (as := [.ref 17, .int (iI ((i4 : Int)))]) dX1_nearest_14 oX7_read w_677 w_460 rfl (by omega) rfl (Nat.le_of_ble_eq_true rfl) (c_readIn (by decide) (s_17 hsh) (by decide) (by omega) (by omega)) ?_
    refine k_eqst (congrArg (fun z : Int => Value.int (iI z) :: []) (show σ 17 i4 = σ 17 ((i4 : Int)).toNat from rfl)) ?_
    refine k_istore (ls' := [(0, .ref 14), (1, .int (iI (f))), (2, .int (iI (g_nearN (σ 17) f i4))), (3, .int (iI ((i4 : Int)))), (4, .int (iI (σ 17 i4)))]) dX1_nearest_17 (by decide) rfl rfl ?_
    refine k_iload_n dX1_nearest_19 1 rfl rfl ?_
    refine k_iload_n dX1_nearest_20 3 rfl rfl ?_
    refine k_callSNr (st := []) (as := [.int (iI (f)), .int (iI ((i4 : Int)))]) dX1_nearest_21 oX7_holds w_672 w_463 rfl (by omega) rfl (Nat.le_of_ble_eq_true rfl) (c_holds (by omega) (by omega)) ?_
    refine k_eqst (congrArg (fun z : Int => Value.int (iI z) :: []) (show zb (z_bit (f) ((i4 : Int)) = true) = zb (0 ≤ ((i4 : Int)) ∧ ((i4 : Int)) < 16 ∧ z_bit (f) ((i4 : Int)) = true) from (f_holds (by omega) (by omega)).symm)) ?_
    refine k_if_eq (tgt := 37) dX1_nearest_24 rfl (zb_kr _) (fun h_3 => ?_) (fun h_3 => ?_)
    · have h_3 := zb_0.mp h_3
      refine k_iconst (v := 0) dX1_nearest_37 rfl ?_
      refine k_istore (ls' := [(0, .ref 14), (1, .int (iI (f))), (2, .int (iI (g_nearN (σ 17) f i4))), (3, .int (iI ((i4 : Int)))), (4, .int (iI (σ 17 i4))), (5, .int (iI (0)))]) dX1_nearest_38 (by decide) rfl rfl ?_
      refine k_iload dX1_nearest_40 5 rfl ?_
      refine k_if_eq (tgt := 65) dX1_nearest_42 rfl ⟨by decide, by decide⟩ (fun h_4 => ?_) (fun h_4 => absurd h_4 (by decide))
      refine k_iinc (ls' := [(0, .ref 14), (1, .int (iI (f))), (2, .int (iI (g_nearN (σ 17) f i4))), (3, .int (iI ((i4 : Int) + 1))), (4, .int (iI (σ 17 i4))), (5, .int (iI (0)))]) dX1_nearest_65 3 rfl (by decide) rfl rfl ?_
      refine k_goto (tgt := 4) dX1_nearest_68 rfl ?_
      refine k_lrw (q := 2) (j := 2) (a' := g_nearN (σ 17) f (i4 + 1)) (ls' := [(0, .ref 14), (1, .int (iI (f))), (2, .int (iI (g_nearN (σ 17) f (i4 + 1)))), (3, .int (iI ((i4 : Int) + 1))), (4, .int (iI (σ 17 i4))), (5, .int (iI (0)))]) rfl ((if_neg (fun q => h_3 q.1.1)).symm) rfl ?_
      refine k_dropr (ls' := [(0, .ref 14), (1, .int (iI (f))), (2, .int (iI (g_nearN (σ 17) f (i4 + 1)))), (3, .int (iI ((i4 : Int) + 1)))]) (ex := [(4, .int (iI (σ 17 i4))), (5, .int (iI (0)))]) rfl ?_
      exact ih4
    · have h_3 := zb_n0.mp h_3
      refine k_iload dX1_nearest_27 4 rfl ?_
      refine k_iconst (v := (-1)) dX1_nearest_29 rfl ?_
      refine k_icmp_eq (tgt := 37) dX1_nearest_30 rfl ⟨by omega, by omega⟩ ⟨by decide, by decide⟩ (fun h_5 => ?_) (fun h_5 => ?_)
      · refine k_iconst (v := 0) dX1_nearest_37 rfl ?_
        refine k_istore (ls' := [(0, .ref 14), (1, .int (iI (f))), (2, .int (iI (g_nearN (σ 17) f i4))), (3, .int (iI ((i4 : Int)))), (4, .int (iI (σ 17 i4))), (5, .int (iI (0)))]) dX1_nearest_38 (by decide) rfl rfl ?_
        refine k_iload dX1_nearest_40 5 rfl ?_
        refine k_if_eq (tgt := 65) dX1_nearest_42 rfl ⟨by decide, by decide⟩ (fun h_6 => ?_) (fun h_6 => absurd h_6 (by decide))
        refine k_iinc (ls' := [(0, .ref 14), (1, .int (iI (f))), (2, .int (iI (g_nearN (σ 17) f i4))), (3, .int (iI ((i4 : Int) + 1))), (4, .int (iI (σ 17 i4))), (5, .int (iI (0)))]) dX1_nearest_65 3 rfl (by decide) rfl rfl ?_
        refine k_goto (tgt := 4) dX1_nearest_68 rfl ?_
        refine k_lrw (q := 2) (j := 2) (a' := g_nearN (σ 17) f (i4 + 1)) (ls' := [(0, .ref 14), (1, .int (iI (f))), (2, .int (iI (g_nearN (σ 17) f (i4 + 1)))), (3, .int (iI ((i4 : Int) + 1))), (4, .int (iI (σ 17 i4))), (5, .int (iI (0)))]) rfl ((if_neg (fun q => q.1.2 h_5)).symm) rfl ?_
        refine k_dropr (ls' := [(0, .ref 14), (1, .int (iI (f))), (2, .int (iI (g_nearN (σ 17) f (i4 + 1)))), (3, .int (iI ((i4 : Int) + 1)))]) (ex := [(4, .int (iI (σ 17 i4))), (5, .int (iI (0)))]) rfl ?_
        exact ih4
      · refine k_iconst (v := 1) dX1_nearest_33 rfl ?_
        refine k_goto (tgt := 38) dX1_nearest_34 rfl ?_
        refine k_istore (ls' := [(0, .ref 14), (1, .int (iI (f))), (2, .int (iI (g_nearN (σ 17) f i4))), (3, .int (iI ((i4 : Int)))), (4, .int (iI (σ 17 i4))), (5, .int (iI (1)))]) dX1_nearest_38 (by decide) rfl rfl ?_
        refine k_iload dX1_nearest_40 5 rfl ?_
        refine k_if_eq (tgt := 65) dX1_nearest_42 rfl ⟨by decide, by decide⟩ (fun h_7 => absurd h_7 (by decide)) (fun h_7 => ?_)
        refine k_iload_n dX1_nearest_45 2 rfl rfl ?_
        refine k_iconst (v := (-1)) dX1_nearest_46 rfl ?_
        refine k_icmp_eq (tgt := 63) dX1_nearest_47 rfl ⟨by omega, by omega⟩ ⟨by decide, by decide⟩ (fun h_8 => ?_) (fun h_8 => ?_)
        · refine k_iload_n dX1_nearest_63 3 rfl rfl ?_
          refine k_istore_n (ls' := [(0, .ref 14), (1, .int (iI (f))), (2, .int (iI ((i4 : Int)))), (3, .int (iI ((i4 : Int)))), (4, .int (iI (σ 17 i4))), (5, .int (iI (1)))]) dX1_nearest_64 rfl (by decide) rfl rfl ?_
          refine k_iinc (ls' := [(0, .ref 14), (1, .int (iI (f))), (2, .int (iI ((i4 : Int)))), (3, .int (iI ((i4 : Int) + 1))), (4, .int (iI (σ 17 i4))), (5, .int (iI (1)))]) dX1_nearest_65 3 rfl (by decide) rfl rfl ?_
          refine k_goto (tgt := 4) dX1_nearest_68 rfl ?_
          refine k_lrw (q := 2) (j := 2) (a' := g_nearN (σ 17) f (i4 + 1)) (ls' := [(0, .ref 14), (1, .int (iI (f))), (2, .int (iI (g_nearN (σ 17) f (i4 + 1)))), (3, .int (iI ((i4 : Int) + 1))), (4, .int (iI (σ 17 i4))), (5, .int (iI (1)))]) rfl ((if_pos (show (z_bit f (i4 : Int) = true ∧ σ 17 i4 ≠ -1) ∧ (g_nearN (σ 17) f i4 = -1 ∨ σ 17 i4 < σ 17 (g_nearN (σ 17) f i4).toNat) from ⟨⟨h_3, h_5⟩, by omega⟩)).symm) rfl ?_
          refine k_dropr (ls' := [(0, .ref 14), (1, .int (iI (f))), (2, .int (iI (g_nearN (σ 17) f (i4 + 1)))), (3, .int (iI ((i4 : Int) + 1)))]) (ex := [(4, .int (iI (σ 17 i4))), (5, .int (iI (1)))]) rfl ?_
          exact ih4
        · refine k_iload dX1_nearest_50 4 rfl ?_
          refine k_aload_n dX1_nearest_52 0 rfl rfl (by decide) ?_
          refine k_get (kf := 3) (v := .ref 17) dX1_nearest_53 kcX1 w_221 (by decide) (by decide) (s_14 hsh) rfl rfl ?_
          refine k_iload_n dX1_nearest_56 2 rfl rfl ?_
          refine k_callSNr (st := [.int (iI (σ 17 i4))]) (as := [.ref 17, .int (iI (g_nearN (σ 17) f i4))]) dX1_nearest_57 oX7_read w_677 w_460 rfl (by omega) rfl (Nat.le_of_ble_eq_true rfl) (c_readIn (by decide) (s_17 hsh) (by decide) (by omega) (by omega)) ?_
          refine k_icmp_ge (tgt := 65) dX1_nearest_60 rfl ⟨by omega, by omega⟩ ⟨by omega, by omega⟩ (fun h_9 => ?_) (fun h_9 => ?_)
          · refine k_iinc (ls' := [(0, .ref 14), (1, .int (iI (f))), (2, .int (iI (g_nearN (σ 17) f i4))), (3, .int (iI ((i4 : Int) + 1))), (4, .int (iI (σ 17 i4))), (5, .int (iI (1)))]) dX1_nearest_65 3 rfl (by decide) rfl rfl ?_
            refine k_goto (tgt := 4) dX1_nearest_68 rfl ?_
            refine k_lrw (q := 2) (j := 2) (a' := g_nearN (σ 17) f (i4 + 1)) (ls' := [(0, .ref 14), (1, .int (iI (f))), (2, .int (iI (g_nearN (σ 17) f (i4 + 1)))), (3, .int (iI ((i4 : Int) + 1))), (4, .int (iI (σ 17 i4))), (5, .int (iI (1)))]) rfl ((if_neg (show ¬ ((z_bit f (i4 : Int) = true ∧ σ 17 i4 ≠ -1) ∧ (g_nearN (σ 17) f i4 = -1 ∨ σ 17 i4 < σ 17 (g_nearN (σ 17) f i4).toNat)) from fun q => by have := q.2; omega)).symm) rfl ?_
            refine k_dropr (ls' := [(0, .ref 14), (1, .int (iI (f))), (2, .int (iI (g_nearN (σ 17) f (i4 + 1)))), (3, .int (iI ((i4 : Int) + 1)))]) (ex := [(4, .int (iI (σ 17 i4))), (5, .int (iI (1)))]) rfl ?_
            exact ih4
          · refine k_iload_n dX1_nearest_63 3 rfl rfl ?_
            refine k_istore_n (ls' := [(0, .ref 14), (1, .int (iI (f))), (2, .int (iI ((i4 : Int)))), (3, .int (iI ((i4 : Int)))), (4, .int (iI (σ 17 i4))), (5, .int (iI (1)))]) dX1_nearest_64 rfl (by decide) rfl rfl ?_
            refine k_iinc (ls' := [(0, .ref 14), (1, .int (iI (f))), (2, .int (iI ((i4 : Int)))), (3, .int (iI ((i4 : Int) + 1))), (4, .int (iI (σ 17 i4))), (5, .int (iI (1)))]) dX1_nearest_65 3 rfl (by decide) rfl rfl ?_
            refine k_goto (tgt := 4) dX1_nearest_68 rfl ?_
            refine k_lrw (q := 2) (j := 2) (a' := g_nearN (σ 17) f (i4 + 1)) (ls' := [(0, .ref 14), (1, .int (iI (f))), (2, .int (iI (g_nearN (σ 17) f (i4 + 1)))), (3, .int (iI ((i4 : Int) + 1))), (4, .int (iI (σ 17 i4))), (5, .int (iI (1)))]) rfl ((if_pos (show (z_bit f (i4 : Int) = true ∧ σ 17 i4 ≠ -1) ∧ (g_nearN (σ 17) f i4 = -1 ∨ σ 17 i4 < σ 17 (g_nearN (σ 17) f i4).toNat) from ⟨⟨h_3, h_5⟩, by omega⟩)).symm) rfl ?_
            refine k_dropr (ls' := [(0, .ref 14), (1, .int (iI (f))), (2, .int (iI (g_nearN (σ 17) f (i4 + 1)))), (3, .int (iI ((i4 : Int) + 1)))]) (ex := [(4, .int (iI (σ 17 i4))), (5, .int (iI (1)))]) rfl ?_
            exact ih4
end K_P
