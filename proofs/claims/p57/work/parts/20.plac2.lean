/-! ===== PLACEMENTS, the searches by sets, by turns and by counting ===== -/
section K_O
variable {E : k_E} {sh : List k_Sh} {σ : Nat → Nat → Int}
def f_swoI (sets blocks : Int) (t : Nat) (a : Int) (n : Nat) : Int := k_fold n (fun b a => if z_bit sets (t : Int) = true ∧ z_bit (z_diff blocks (t : Int)) (b : Int) = true then z_or a (z_one (z_or (t : Int) (z_one (b : Int)))) else a) a
def f_swoN (sets blocks : Int) (n : Nat) : Int := k_fold n (fun t a => f_swoI sets blocks t a 4) 0
def f_swo (sets blocks : Int) : Int := f_swoN sets blocks 16
theorem f_swo1 {t b : Nat} (ht : t < 16) (hb : b < 4) : 0 ≤ z_or (t : Int) (z_one (b : Int)) ∧ z_or (t : Int) (z_one (b : Int)) < 16 := ⟨z_or_nn _ _, z_or_lt 4 (by omega) (z_one_lt 4 (by omega) (by omega))⟩
theorem f_swoI_r {sets blocks a : Int} {t : Nat} (ht : t < 16) (ha : 0 ≤ a ∧ a < 65536) : ∀ n : Nat, n ≤ 4 → 0 ≤ f_swoI sets blocks t a n ∧ f_swoI sets blocks t a n < 65536
  | 0, _ => ha
  | n + 1, h => by
    have ih := f_swoI_r (sets := sets) (blocks := blocks) ht ha n (by omega)
    have h1 := f_swo1 (t := t) (b := n) ht (by omega)
    show 0 ≤ (ite _ _ _ : Int) ∧ (ite _ _ _ : Int) < 65536
    split
    · exact ⟨z_or_nn _ _, z_or_lt 16 ih.2 (z_one_lt 16 h1.2 h1.1)⟩
    · exact ih
theorem f_swoN_r (sets blocks : Int) : ∀ n : Nat, n ≤ 16 → 0 ≤ f_swoN sets blocks n ∧ f_swoN sets blocks n < 65536
  | 0, _ => ⟨Int.le_refl 0, show (0 : Int) < 65536 by decide⟩
  | n + 1, h => f_swoI_r (by omega) (f_swoN_r sets blocks n (by omega)) 4 (by decide)
def f_sufN (us : Nat → Int) (v : Int) (n : Nat) : Int := k_fold n (fun r a => if z_bit v (2 - (r : Int)) = true then f_swo a (us r) else a) 1
def f_suf (us : Nat → Int) (v : Int) : Int := f_sufN us v 3
theorem f_sufN_r (us : Nat → Int) (v : Int) : ∀ n : Nat, 0 ≤ f_sufN us v n ∧ f_sufN us v n < 65536
  | 0 => ⟨show (0 : Int) ≤ 1 by decide, show (1 : Int) < 65536 by decide⟩
  | n + 1 => by
    show 0 ≤ (ite _ _ _ : Int) ∧ (ite _ _ _ : Int) < 65536
    split
    · exact f_swoN_r _ _ 16 (by decide)
    · exact f_sufN_r us v n
set_option maxHeartbeats 4000000 in
theorem c_setsWithOneOf {x y : Int} (hx : -2147483648 ≤ x ∧ x < 2147483648) (hy : -2147483648 ≤ y ∧ y < 2147483648) (hx0 : 0 ≤ x ∧ x < 65536) (hy0 : 0 ≤ y ∧ y < 16) : k_C E mX4_setsWithOneOf 2 [.int (iI (x)), .int (iI (y))] sh σ 0 0 (k_ret (some (.int (iI (f_swo x y)))) sh σ) := by
  refine k_C_of (ls0 := [(0, .int (iI (x))), (1, .int (iI (y)))]) rfl pnX4 (fun v hv => k_cat1 rfl hv) (Nat.le_of_ble_eq_true rfl) rfl ?_
  refine k_iconst (v := 0) dX4_setsWithOneOf_0 rfl ?_
  refine k_istore_n (ls' := [(0, .int (iI (x))), (1, .int (iI (y))), (2, .int (iI (0)))]) dX4_setsWithOneOf_1 rfl (by decide) rfl rfl ?_
  refine k_iconst (v := 0) dX4_setsWithOneOf_2 rfl ?_
  refine k_istore_n (ls' := [(0, .int (iI (x))), (1, .int (iI (y))), (2, .int (iI (0))), (3, .int (iI (0)))]) dX4_setsWithOneOf_3 rfl (by decide) rfl rfl ?_
  refine k_down (P := fun i4 : Nat => k_V E mX4_setsWithOneOf _ 4 [(0, .int (iI (x))), (1, .int (iI (y))), (2, .int (iI (f_swoN x y i4))), (3, .int (iI ((i4 : Int))))] [] sh σ _ _ _) (16) ?_ ?_
  · skip
    have q0 := f_swoN_r x y (16) (by omega)
    refine k_iload_n dX4_setsWithOneOf_4 3 rfl rfl ?_
    refine k_bipush (v := 16) dX4_setsWithOneOf_5 (by decide) ?_
    refine k_icmp_ge (tgt := 63) dX4_setsWithOneOf_7 rfl ⟨by omega, by omega⟩ ⟨by decide, by decide⟩ (fun h_1 => ?_) (fun h_1 => absurd h_1 (by omega))
    refine k_iload_n dX4_setsWithOneOf_63 2 rfl rfl ?_
    exact k_reti dX4_setsWithOneOf_64 rfl rfl (by rfl)
  · intro i4 hi4 ih4
    have q0 := f_swoN_r x y i4 (by omega)
    refine k_iload_n dX4_setsWithOneOf_4 3 rfl rfl ?_
    refine k_bipush (v := 16) dX4_setsWithOneOf_5 (by decide) ?_
    refine k_icmp_ge (tgt := 63) dX4_setsWithOneOf_7 rfl ⟨by omega, by omega⟩ ⟨by decide, by decide⟩ (fun h_2 => absurd h_2 (by omega)) (fun h_2 => ?_)
    refine k_iconst (v := 0) dX4_setsWithOneOf_10 rfl ?_
    refine k_istore (ls' := [(0, .int (iI (x))), (1, .int (iI (y))), (2, .int (iI (f_swoN x y i4))), (3, .int (iI ((i4 : Int)))), (4, .int (iI (0)))]) dX4_setsWithOneOf_11 (by decide) rfl rfl ?_
    refine k_down (P := fun i13 : Nat => k_V E mX4_setsWithOneOf _ 13 [(0, .int (iI (x))), (1, .int (iI (y))), (2, .int (iI (f_swoI x y i4 (f_swoN x y i4) i13))), (3, .int (iI ((i4 : Int)))), (4, .int (iI ((i13 : Int))))] [] sh σ _ _ _) (4) ?_ ?_
    · skip
      have q1 := f_swoI_r (sets := x) (blocks := y) (t := i4) (by omega) q0 (4) (by omega)
      have q2 := z_diff_nn y (i4 : Int)
      have q3 : z_diff y (i4 : Int) < 16 := z_diff_lt 4 hy0.2
      refine k_iload dX4_setsWithOneOf_13 4 rfl ?_
      refine k_iconst (v := 4) dX4_setsWithOneOf_15 rfl ?_
      refine k_icmp_ge (tgt := 57) dX4_setsWithOneOf_16 rfl ⟨by omega, by omega⟩ ⟨by decide, by decide⟩ (fun h_3 => ?_) (fun h_3 => absurd h_3 (by omega))
      refine k_iinc (ls' := [(0, .int (iI (x))), (1, .int (iI (y))), (2, .int (iI (f_swoI x y i4 (f_swoN x y i4) (4)))), (3, .int (iI ((i4 : Int) + 1))), (4, .int (iI (((4 : Nat) : Int))))]) dX4_setsWithOneOf_57 3 rfl (by decide) rfl rfl ?_
      refine k_goto (tgt := 4) dX4_setsWithOneOf_60 rfl ?_
      refine k_dropr (ls' := [(0, .int (iI (x))), (1, .int (iI (y))), (2, .int (iI (f_swoI x y i4 (f_swoN x y i4) (4)))), (3, .int (iI ((i4 : Int) + 1)))]) (ex := [(4, .int (iI (((4 : Nat) : Int))))]) rfl ?_
      exact ih4
    · intro i13 hi13 ih13
      have q1 := f_swoI_r (sets := x) (blocks := y) (t := i4) (by omega) q0 i13 (by omega)
      have q2 := z_diff_nn y (i4 : Int)
      have q3 : z_diff y (i4 : Int) < 16 := z_diff_lt 4 hy0.2
      have q4 := f_swo1 (t := i4) (b := i13) (by omega) (by omega)
      refine k_iload dX4_setsWithOneOf_13 4 rfl ?_
      refine k_iconst (v := 4) dX4_setsWithOneOf_15 rfl ?_
      refine k_icmp_ge (tgt := 57) dX4_setsWithOneOf_16 rfl ⟨by omega, by omega⟩ ⟨by decide, by decide⟩ (fun h_4 => absurd h_4 (by omega)) (fun h_4 => ?_)
      refine k_iload_n dX4_setsWithOneOf_19 0 rfl rfl ?_
      refine k_iload_n dX4_setsWithOneOf_20 3 rfl rfl ?_
      refine k_callSNr (st := []) (as := [.int (iI (x)), .int (iI ((i4 : Int)))]) dX4_setsWithOneOf_21 oX7_holds w_515 w_463 rfl (by omega) rfl (Nat.le_of_ble_eq_true rfl) (c_holds (by omega) (by omega)) ?_
      refine k_eqst (congrArg (fun z : Int => Value.int (iI z) :: []) (show zb (z_bit (x) (i4 : Int) = true) = zb (0 ≤ ((i4 : Int)) ∧ ((i4 : Int)) < 16 ∧ z_bit (x) ((i4 : Int)) = true) from (f_holds (by omega) (by omega)).symm)) ?_
      refine k_if_eq (tgt := 51) dX4_setsWithOneOf_24 rfl (zb_kr _) (fun h_5 => ?_) (fun h_5 => ?_)
      · have h_5 := zb_0.mp h_5
        refine k_iinc (ls' := [(0, .int (iI (x))), (1, .int (iI (y))), (2, .int (iI (f_swoI x y i4 (f_swoN x y i4) i13))), (3, .int (iI ((i4 : Int)))), (4, .int (iI ((i13 : Int) + 1)))]) dX4_setsWithOneOf_51 4 rfl (by decide) rfl rfl ?_
        refine k_goto (tgt := 13) dX4_setsWithOneOf_54 rfl ?_
        refine k_lrw (q := 2) (j := 2) (a' := f_swoI x y i4 (f_swoN x y i4) (i13 + 1)) (ls' := [(0, .int (iI (x))), (1, .int (iI (y))), (2, .int (iI (f_swoI x y i4 (f_swoN x y i4) (i13 + 1)))), (3, .int (iI ((i4 : Int)))), (4, .int (iI ((i13 : Int) + 1)))]) rfl (if_neg (fun q => h_5 q.1)).symm rfl ?_
        exact ih13
      · have h_5 := zb_n0.mp h_5
        refine k_iload_n dX4_setsWithOneOf_27 1 rfl rfl ?_
        refine k_iload_n dX4_setsWithOneOf_28 3 rfl rfl ?_
        refine k_iconst (v := (-1)) dX4_setsWithOneOf_29 rfl ?_
        refine k_ixor (v := (iI ((i4 : Int)) ^^^ iI (-1))) dX4_setsWithOneOf_30 rfl ?_
        refine k_iand (v := (iI (z_diff (y) ((i4 : Int))))) dX4_setsWithOneOf_31 (z_diffI (by omega) (by omega) (by omega)) ?_
        refine k_iload dX4_setsWithOneOf_32 4 rfl ?_
        refine k_callSNr (st := []) (as := [.int (iI (z_diff (y) ((i4 : Int)))), .int (iI ((i13 : Int)))]) dX4_setsWithOneOf_34 oX7_holds w_515 w_463 rfl (by omega) rfl (Nat.le_of_ble_eq_true rfl) (c_holds (by omega) (by omega)) ?_
        refine k_eqst (congrArg (fun z : Int => Value.int (iI z) :: []) (show zb (z_bit (z_diff (y) ((i4 : Int))) (i13 : Int) = true) = zb (0 ≤ ((i13 : Int)) ∧ ((i13 : Int)) < 16 ∧ z_bit (z_diff (y) ((i4 : Int))) ((i13 : Int)) = true) from (f_holds (by omega) (by omega)).symm)) ?_
        refine k_if_eq (tgt := 51) dX4_setsWithOneOf_37 rfl (zb_kr _) (fun h_6 => ?_) (fun h_6 => ?_)
        · have h_6 := zb_0.mp h_6
          refine k_iinc (ls' := [(0, .int (iI (x))), (1, .int (iI (y))), (2, .int (iI (f_swoI x y i4 (f_swoN x y i4) i13))), (3, .int (iI ((i4 : Int)))), (4, .int (iI ((i13 : Int) + 1)))]) dX4_setsWithOneOf_51 4 rfl (by decide) rfl rfl ?_
          refine k_goto (tgt := 13) dX4_setsWithOneOf_54 rfl ?_
          refine k_lrw (q := 2) (j := 2) (a' := f_swoI x y i4 (f_swoN x y i4) (i13 + 1)) (ls' := [(0, .int (iI (x))), (1, .int (iI (y))), (2, .int (iI (f_swoI x y i4 (f_swoN x y i4) (i13 + 1)))), (3, .int (iI ((i4 : Int)))), (4, .int (iI ((i13 : Int) + 1)))]) rfl (if_neg (fun q => h_6 q.2)).symm rfl ?_
          exact ih13
        · have h_6 := zb_n0.mp h_6
          refine k_iload_n dX4_setsWithOneOf_40 2 rfl rfl ?_
          refine k_iconst (v := 1) dX4_setsWithOneOf_41 rfl ?_
          refine k_iload_n dX4_setsWithOneOf_42 3 rfl rfl ?_
          refine k_iconst (v := 1) dX4_setsWithOneOf_43 rfl ?_
          refine k_iload dX4_setsWithOneOf_44 4 rfl ?_
          refine k_ishl (v := (iI (z_one ((i13 : Int))))) dX4_setsWithOneOf_46 (z_oneI (by omega) (by omega)) ?_
          refine k_ior (v := (iI (z_or ((i4 : Int)) (z_one ((i13 : Int)))))) dX4_setsWithOneOf_47 (z_orI (by omega) (Int.le_of_lt (z_one_pos _))) ?_
          refine k_ishl (v := (iI (z_one (z_or ((i4 : Int)) (z_one ((i13 : Int))))))) dX4_setsWithOneOf_48 (z_oneI (by omega) (by omega)) ?_
          refine k_ior (v := (iI (z_or (f_swoI x y i4 (f_swoN x y i4) i13) (z_one (z_or ((i4 : Int)) (z_one ((i13 : Int)))))))) dX4_setsWithOneOf_49 (z_orI (by omega) (Int.le_of_lt (z_one_pos _))) ?_
          refine k_istore_n (ls' := [(0, .int (iI (x))), (1, .int (iI (y))), (2, .int (iI (z_or (f_swoI x y i4 (f_swoN x y i4) i13) (z_one (z_or ((i4 : Int)) (z_one ((i13 : Int)))))))), (3, .int (iI ((i4 : Int)))), (4, .int (iI ((i13 : Int))))]) dX4_setsWithOneOf_50 rfl (by decide) rfl rfl ?_
          refine k_iinc (ls' := [(0, .int (iI (x))), (1, .int (iI (y))), (2, .int (iI (z_or (f_swoI x y i4 (f_swoN x y i4) i13) (z_one (z_or ((i4 : Int)) (z_one ((i13 : Int)))))))), (3, .int (iI ((i4 : Int)))), (4, .int (iI ((i13 : Int) + 1)))]) dX4_setsWithOneOf_51 4 rfl (by decide) rfl rfl ?_
          refine k_goto (tgt := 13) dX4_setsWithOneOf_54 rfl ?_
          refine k_lrw (q := 2) (j := 2) (a' := f_swoI x y i4 (f_swoN x y i4) (i13 + 1)) (ls' := [(0, .int (iI (x))), (1, .int (iI (y))), (2, .int (iI (f_swoI x y i4 (f_swoN x y i4) (i13 + 1)))), (3, .int (iI ((i4 : Int)))), (4, .int (iI ((i13 : Int) + 1)))]) rfl (if_pos ⟨h_5, h_6⟩).symm rfl ?_
          exact ih13
set_option maxHeartbeats 4000000 in
theorem c_setsUsedFor (hsh : k_Main sh) (hus : ∀ j, 0 ≤ σ 11 j ∧ σ 11 j < 16) {v : Int} (hv : -2147483648 ≤ v ∧ v < 2147483648) (hv0 : 0 ≤ v ∧ v < 8) : k_C E mX4_setsUsedFor 3 [.ref 10, .int (iI (v))] sh σ 0 0 (k_ret (some (.int (iI (f_suf (σ 11) v)))) sh σ) := by
  refine k_C_of (ls0 := [(0, .ref 10), (1, .int (iI (v)))]) rfl pnX4 (fun v hv => k_cat1 rfl hv) (Nat.le_of_ble_eq_true rfl) rfl ?_
  refine k_iconst (v := 1) dX4_setsUsedFor_0 rfl ?_
  refine k_istore_n (ls' := [(0, .ref 10), (1, .int (iI (v))), (2, .int (iI (1)))]) dX4_setsUsedFor_1 rfl (by decide) rfl rfl ?_
  refine k_iconst (v := 0) dX4_setsUsedFor_2 rfl ?_
  refine k_istore_n (ls' := [(0, .ref 10), (1, .int (iI (v))), (2, .int (iI (1))), (3, .int (iI (0)))]) dX4_setsUsedFor_3 rfl (by decide) rfl rfl ?_
  refine k_down (P := fun i4 : Nat => k_V E mX4_setsUsedFor _ 4 [(0, .ref 10), (1, .int (iI (v))), (2, .int (iI (f_sufN (σ 11) v i4))), (3, .int (iI ((i4 : Int))))] [] sh σ _ _ _) (3) ?_ ?_
  · skip
    have q0 := f_sufN_r (σ 11) v (3)
    have q1 := hus (3)
    refine k_iload_n dX4_setsUsedFor_4 3 rfl rfl ?_
    refine k_iconst (v := 3) dX4_setsUsedFor_5 rfl ?_
    refine k_icmp_ge (tgt := 38) dX4_setsUsedFor_6 rfl ⟨by omega, by omega⟩ ⟨by decide, by decide⟩ (fun h_1 => ?_) (fun h_1 => absurd h_1 (by omega))
    refine k_iload_n dX4_setsUsedFor_38 2 rfl rfl ?_
    exact k_reti dX4_setsUsedFor_39 rfl rfl (by rfl)
  · intro i4 hi4 ih4
    have q0 := f_sufN_r (σ 11) v i4
    have q1 := hus i4
    refine k_iload_n dX4_setsUsedFor_4 3 rfl rfl ?_
    refine k_iconst (v := 3) dX4_setsUsedFor_5 rfl ?_
    refine k_icmp_ge (tgt := 38) dX4_setsUsedFor_6 rfl ⟨by omega, by omega⟩ ⟨by decide, by decide⟩ (fun h_2 => absurd h_2 (by omega)) (fun h_2 => ?_)
    refine k_iload_n dX4_setsUsedFor_9 1 rfl rfl ?_
    refine k_iconst (v := 2) dX4_setsUsedFor_10 rfl ?_
    refine k_iload_n dX4_setsUsedFor_11 3 rfl rfl ?_
    refine k_isub dX4_setsUsedFor_12 ?_
    refine k_callSNr (st := []) (as := [.int (iI (v)), .int (iI (2 - ((i4 : Int))))]) dX4_setsUsedFor_13 oX7_holds w_515 w_463 rfl (by omega) rfl (Nat.le_of_ble_eq_true rfl) (c_holds (by omega) (by omega)) ?_
    refine k_eqst (congrArg (fun z : Int => Value.int (iI z) :: []) (show zb (z_bit (v) (2 - (i4 : Int)) = true) = zb (0 ≤ (2 - ((i4 : Int))) ∧ (2 - ((i4 : Int))) < 16 ∧ z_bit (v) (2 - ((i4 : Int))) = true) from (f_holds (by omega) (by omega)).symm)) ?_
    refine k_if_eq (tgt := 32) dX4_setsUsedFor_16 rfl (zb_kr _) (fun h_3 => ?_) (fun h_3 => ?_)
    · have h_3 := zb_0.mp h_3
      refine k_iinc (ls' := [(0, .ref 10), (1, .int (iI (v))), (2, .int (iI (f_sufN (σ 11) v i4))), (3, .int (iI ((i4 : Int) + 1)))]) dX4_setsUsedFor_32 3 rfl (by decide) rfl rfl ?_
      refine k_goto (tgt := 4) dX4_setsUsedFor_35 rfl ?_
      refine k_lrw (q := 2) (j := 2) (a' := f_sufN (σ 11) v (i4 + 1)) (ls' := [(0, .ref 10), (1, .int (iI (v))), (2, .int (iI (f_sufN (σ 11) v (i4 + 1)))), (3, .int (iI ((i4 : Int) + 1)))]) rfl (if_neg h_3).symm rfl ?_
      exact ih4
    · have h_3 := zb_n0.mp h_3
      refine k_iload_n dX4_setsUsedFor_19 2 rfl rfl ?_
      refine k_aload_n dX4_setsUsedFor_20 0 rfl rfl (by decide) ?_
      refine k_get (kf := 1) (v := .ref 11) dX4_setsUsedFor_21 kcX4 w_194 (by decide) (by decide) (s_10 hsh) rfl rfl ?_
      refine k_iload_n dX4_setsUsedFor_24 3 rfl rfl ?_
      refine k_callSNr (st := [.int (iI (f_sufN (σ 11) v i4))]) (as := [.ref 11, .int (iI ((i4 : Int)))]) dX4_setsUsedFor_25 oX7_read w_474 w_460 rfl (by omega) rfl (Nat.le_of_ble_eq_true rfl) (c_readIn (by decide) (s_11 hsh) (by decide) (by omega) (by omega)) ?_
      refine k_eqst (congrArg (fun z : Int => Value.int (iI z) :: [.int (iI (f_sufN (σ 11) v i4))]) (show σ 11 i4 = σ 11 ((i4 : Int)).toNat from rfl)) ?_
      refine k_callSr (st := []) (as := [.int (iI (f_sufN (σ 11) v i4)), .int (iI (σ 11 i4))]) dX4_setsUsedFor_28 oX4_setsWithOneOf w_1129 w_1130 rfl (by omega) rfl (Nat.le_of_ble_eq_true rfl) (c_setsWithOneOf ⟨by omega, by omega⟩ ⟨by omega, by omega⟩ (by omega) (by omega)) ?_
      refine k_istore_n (ls' := [(0, .ref 10), (1, .int (iI (v))), (2, .int (iI (f_swo (f_sufN (σ 11) v i4) (σ 11 i4)))), (3, .int (iI ((i4 : Int))))]) dX4_setsUsedFor_31 rfl (by decide) rfl rfl ?_
      refine k_iinc (ls' := [(0, .ref 10), (1, .int (iI (v))), (2, .int (iI (f_swo (f_sufN (σ 11) v i4) (σ 11 i4)))), (3, .int (iI ((i4 : Int) + 1)))]) dX4_setsUsedFor_32 3 rfl (by decide) rfl rfl ?_
      refine k_goto (tgt := 4) dX4_setsUsedFor_35 rfl ?_
      refine k_lrw (q := 2) (j := 2) (a' := f_sufN (σ 11) v (i4 + 1)) (ls' := [(0, .ref 10), (1, .int (iI (v))), (2, .int (iI (f_sufN (σ 11) v (i4 + 1)))), (3, .int (iI ((i4 : Int) + 1)))]) rfl (if_pos h_3).symm rfl ?_
      exact ih4
/-- the greatest value whose wishes can all have a block -/
def f_vbs (us : Nat → Int) : Int := if z_first 7 (fun i => decide (f_suf us (7 - (i : Int)) ≠ 0)) = -1 then 0 else 7 - z_first 7 (fun i => decide (f_suf us (7 - (i : Int)) ≠ 0))
set_option maxHeartbeats 4000000 in
theorem c_valueBySets (hsh : k_Main sh) (hI : k_Ty σ) (hS : k_Sc σ) {p : Int} (hp : -2147483648 ≤ p ∧ p < 2147483648) (hp0 : 0 ≤ p ∧ p < 12) : k_C E mX4_valueBySets 6 [.ref 10, .int (iI (p))] sh σ 0 0 (k_ret (some (.int (iI (f_vbs (u_roomy σ p 11))))) sh (u_roomy σ p)) := by
  refine k_C_of (ls0 := [(0, .ref 10), (1, .int (iI (p)))]) rfl pnX4 (fun v hv => k_cat1 rfl hv) (Nat.le_of_ble_eq_true rfl) rfl ?_
  obtain ⟨t0, t1, t2, t3, t4, t5, t6, t7, t8, t9, t10, t11⟩ := id hI
  refine k_aload_n dX4_valueBySets_0 0 rfl rfl (by decide) ?_
  refine k_iload_n dX4_valueBySets_1 1 rfl rfl ?_
  refine k_callVr (st := []) (as := [.int (iI (p))]) dX4_valueBySets_2 oX4_collectRoomy w_470 w_472 w_1 rfl (by omega) rfl (Nat.le_of_ble_eq_true rfl) (by decide) (s_10 hsh) rfl (c_collectRoomy hsh hI ⟨by omega, by omega⟩ (by omega)) ?_
  refine k_bipush (v := 7) dX4_valueBySets_5 (by decide) ?_
  refine k_istore_n (ls' := [(0, .ref 10), (1, .int (iI (p))), (2, .int (iI (7)))]) dX4_valueBySets_7 rfl (by decide) rfl rfl ?_
  refine k_downI (P := fun i8 : Nat => k_V E mX4_valueBySets _ 8 [(0, .ref 10), (1, .int (iI (p))), (2, .int (iI (7 - (i8 : Int))))] [] sh (u_roomy σ p) _ _ _) (J := fun i8 : Nat => ∀ j, j < i8 → (fun i : Nat => decide (f_suf (u_roomy σ p 11) (7 - (i : Int)) ≠ 0)) j = false) (7) (fun j hj => absurd hj (Nat.not_lt_zero j)) ?_ ?_
  · intro hJ8
    have q0 : 0 ≤ f_suf (u_roomy σ p 11) (7 - ((7) : Int)) ∧ f_suf (u_roomy σ p 11) (7 - ((7) : Int)) < 65536 := f_sufN_r _ _ 3
    refine k_iload_n dX4_valueBySets_8 2 rfl rfl ?_
    refine k_if_le (tgt := 28) dX4_valueBySets_9 rfl ⟨by omega, by omega⟩ (fun h_1 => ?_) (fun h_1 => absurd h_1 (by omega))
    refine k_iconst (v := 0) dX4_valueBySets_28 rfl ?_
    exact k_reti dX4_valueBySets_29 rfl rfl (by rw [f_vbs, z_first_none (P := (fun i : Nat => decide (f_suf (u_roomy σ p 11) (7 - (i : Int)) ≠ 0))) 7 hJ8, if_pos rfl])
  · intro i8 hi8 hJ8 ih8
    have q0 : 0 ≤ f_suf (u_roomy σ p 11) (7 - (i8 : Int)) ∧ f_suf (u_roomy σ p 11) (7 - (i8 : Int)) < 65536 := f_sufN_r _ _ 3
    refine k_iload_n dX4_valueBySets_8 2 rfl rfl ?_
    refine k_if_le (tgt := 28) dX4_valueBySets_9 rfl ⟨by omega, by omega⟩ (fun h_2 => absurd h_2 (by omega)) (fun h_2 => ?_)
    refine k_aload_n dX4_valueBySets_12 0 rfl rfl (by decide) ?_
    refine k_iload_n dX4_valueBySets_13 2 rfl rfl ?_
    refine k_callVr (st := []) (as := [.int (iI (7 - (i8 : Int)))]) dX4_valueBySets_14 oX4_setsUsedFor w_1125 w_1127 w_22 rfl (by omega) rfl (Nat.le_of_ble_eq_true rfl) (by decide) (s_10 hsh) rfl (c_setsUsedFor hsh (u_roomy_11 hI hS p) ⟨by omega, by omega⟩ (by omega)) ?_
    refine k_if_eq (tgt := 22) dX4_valueBySets_17 rfl ⟨by omega, by omega⟩ (fun h_3 => ?_) (fun h_3 => ?_)
    · refine k_iinc (ls' := [(0, .ref 10), (1, .int (iI (p))), (2, .int (iI (7 - (i8 : Int) + (-1))))]) dX4_valueBySets_22 2 rfl (by decide) rfl rfl ?_
      refine k_goto (tgt := 8) dX4_valueBySets_25 rfl ?_
      refine k_lrw (q := 2) (j := 2) (a' := 7 - ((i8 + 1 : Nat) : Int)) (ls' := [(0, .ref 10), (1, .int (iI (p))), (2, .int (iI (7 - ((i8 + 1 : Nat) : Int))))]) rfl (by omega) rfl ?_
      exact ih8 (k_Jstep (P := (fun i : Nat => decide (f_suf (u_roomy σ p 11) (7 - (i : Int)) ≠ 0))) hJ8 (by simpa using h_3))
    · refine k_iload_n dX4_valueBySets_20 2 rfl rfl ?_
      exact k_reti dX4_valueBySets_21 rfl rfl (by have e := z_first_some (P := (fun i : Nat => decide (f_suf (u_roomy σ p 11) (7 - (i : Int)) ≠ 0))) (by simpa using h_3) hJ8 7 hi8; rw [f_vbs, e, if_neg (by omega)])
def z_any (n : Nat) (P : Nat → Bool) : Bool := match n with
  | 0 => false
  | m + 1 => z_any m P || P m
theorem z_any_t {P : Nat → Bool} {i : Nat} (hp : P i = true) : ∀ n : Nat, i < n → z_any n P = true
  | 0, h => by omega
  | m + 1, h => by
    unfold z_any
    by_cases e : i = m
    · subst e; rw [hp, Bool.or_true]
    · rw [z_any_t hp m (by omega), Bool.true_or]
theorem z_any_f {P : Nat → Bool} : ∀ n : Nat, (∀ j, j < n → P j = false) → z_any n P = false
  | 0, _ => rfl
  | m + 1, h => by
    unfold z_any
    rw [z_any_f m (fun j hj => h j (by omega)), h m (by omega)]
    rfl
def g_srv (us : Nat → Int) (cnt : Int) : Nat → Int → Bool
  | 0, _ => true
  | n + 1, taken => if cnt ≤ 2 - (n : Int) then true else z_any 4 (fun b => z_bit (z_diff (us (2 - n)) taken) (b : Int) && g_srv us cnt n (z_or taken (z_one (b : Int))))
set_option maxHeartbeats 4000000 in
theorem c_serve (hsh : k_Main sh) (hus : ∀ j, 0 ≤ σ 11 j ∧ σ 11 j < 16) {c : Int} (hc : -1 ≤ c ∧ c ≤ 3) : ∀ m : Nat, m ≤ 3 → ∀ (rank taken : Int), rank = 3 - (m : Int) → (0 ≤ taken ∧ taken < 16) → k_C E mX4_serve (m + 2) [.ref 11, .int (iI c), .int (iI rank), .int (iI taken)] sh σ 0 0 (k_ret (some (.int (iI (zb (g_srv (σ 11) c m taken = true))))) sh σ) := by
  intro m
  induction m with
  | zero =>
    intro hm rank taken hp ht
    refine k_C_of (ls0 := [(0, .ref 11), (1, .int (iI c)), (2, .int (iI rank)), (3, .int (iI taken))]) rfl pnX4 (fun v hv => k_cat1 rfl hv) (Nat.le_of_ble_eq_true rfl) rfl ?_
    refine k_iload_n dX4_serve_0 2 rfl rfl ?_
    refine k_iload_n dX4_serve_1 1 rfl rfl ?_
    refine k_icmp_ge (tgt := 10) dX4_serve_2 rfl ⟨by omega, by omega⟩ ⟨by omega, by omega⟩ (fun h_1 => ?_) (fun h_1 => ?_)
    · refine k_iconst (v := 1) dX4_serve_10 rfl ?_
      exact k_retz dX4_serve_11 rfl (Or.inr rfl) rfl (by exact (zb_t rfl).symm)
    · refine k_iload_n dX4_serve_5 2 rfl rfl ?_
      refine k_iconst (v := 3) dX4_serve_6 rfl ?_
      refine k_icmp_lt (tgt := 12) dX4_serve_7 rfl ⟨by omega, by omega⟩ ⟨by decide, by decide⟩ (fun h_2 => absurd h_2 (by omega)) (fun h_2 => ?_)
      refine k_iconst (v := 1) dX4_serve_10 rfl ?_
      exact k_retz dX4_serve_11 rfl (Or.inr rfl) rfl (by exact (zb_t rfl).symm)
  | succ n IH =>
    intro hm rank taken hp ht
    have IH := IH (by omega)
    refine k_C_of (ls0 := [(0, .ref 11), (1, .int (iI c)), (2, .int (iI rank)), (3, .int (iI taken))]) rfl pnX4 (fun v hv => k_cat1 rfl hv) (Nat.le_of_ble_eq_true rfl) rfl ?_
    refine k_iload_n dX4_serve_0 2 rfl rfl ?_
    refine k_iload_n dX4_serve_1 1 rfl rfl ?_
    refine k_icmp_ge (tgt := 10) dX4_serve_2 rfl ⟨by omega, by omega⟩ ⟨by omega, by omega⟩ (fun h_1 => ?_) (fun h_1 => ?_)
    · refine k_iconst (v := 1) dX4_serve_10 rfl ?_
      exact k_retz dX4_serve_11 rfl (Or.inr rfl) rfl (by first | exact (zb_t (if_pos (by omega))).symm | omega)
    · refine k_iload_n dX4_serve_5 2 rfl rfl ?_
      refine k_iconst (v := 3) dX4_serve_6 rfl ?_
      refine k_icmp_lt (tgt := 12) dX4_serve_7 rfl ⟨by omega, by omega⟩ ⟨by decide, by decide⟩ (fun h_2 => ?_) (fun h_2 => absurd h_2 (by omega))
      refine k_iconst (v := 0) dX4_serve_12 rfl ?_
      refine k_istore (ls' := [(0, .ref 11), (1, .int (iI (c))), (2, .int (iI (rank))), (3, .int (iI (taken))), (4, .int (iI (0)))]) dX4_serve_13 (by decide) rfl rfl ?_
      refine k_downI (P := fun i15 : Nat => k_V E mX4_serve _ 15 [(0, .ref 11), (1, .int (iI (c))), (2, .int (iI (rank))), (3, .int (iI (taken))), (4, .int (iI ((i15 : Int))))] [] sh σ _ _ _) (J := fun i15 : Nat => ∀ j, j < i15 → (fun b : Nat => z_bit (z_diff (σ 11 (2 - n)) taken) (b : Int) && g_srv (σ 11) c n (z_or taken (z_one (b : Int)))) j = false) (4) (fun j hj => absurd hj (Nat.not_lt_zero j)) ?_ ?_
      · intro hJ15
        have q1 := hus (2 - n)
        have q2 := z_diff_nn (σ 11 (2 - n)) taken
        have q3 : z_diff (σ 11 (2 - n)) taken < 16 := z_diff_lt 4 q1.2
        refine k_iload dX4_serve_15 4 rfl ?_
        refine k_iconst (v := 4) dX4_serve_17 rfl ?_
        refine k_icmp_ge (tgt := 63) dX4_serve_18 rfl ⟨by omega, by omega⟩ ⟨by decide, by decide⟩ (fun h_3 => ?_) (fun h_3 => absurd h_3 (by omega))
        refine k_iconst (v := 0) dX4_serve_63 rfl ?_
        exact k_retz dX4_serve_64 rfl (Or.inl rfl) rfl (by rw [g_srv, if_neg (by omega), z_any_f (P := (fun b : Nat => z_bit (z_diff (σ 11 (2 - n)) taken) (b : Int) && g_srv (σ 11) c n (z_or taken (z_one (b : Int))))) 4 hJ15]; exact (zb_f (by decide)).symm)
      · intro i15 hi15 hJ15 ih15
        have q1 := hus (2 - n)
        have q2 := z_diff_nn (σ 11 (2 - n)) taken
        have q3 : z_diff (σ 11 (2 - n)) taken < 16 := z_diff_lt 4 q1.2
        have hn2 := z_or_nn taken (z_one (i15 : Int))
        have hn3 : z_or taken (z_one (i15 : Int)) < 16 := z_or_lt 4 (by omega) (z_one_lt 4 (by omega) (by omega))
        refine k_iload dX4_serve_15 4 rfl ?_
        refine k_iconst (v := 4) dX4_serve_17 rfl ?_
        refine k_icmp_ge (tgt := 63) dX4_serve_18 rfl ⟨by omega, by omega⟩ ⟨by decide, by decide⟩ (fun h_4 => absurd h_4 (by omega)) (fun h_4 => ?_)
        refine k_aload_n dX4_serve_21 0 rfl rfl (by decide) ?_
        refine k_iload_n dX4_serve_22 2 rfl rfl ?_
        refine k_callSNr (st := []) (as := [.ref 11, .int (iI (rank))]) dX4_serve_23 oX7_read w_474 w_460 rfl (by omega) rfl (Nat.le_of_ble_eq_true rfl) (c_readIn (by decide) (s_11 hsh) (by decide) (by omega) (by omega)) ?_
        refine k_eqst (congrArg (fun z : Int => Value.int (iI z) :: []) (show σ 11 (2 - n) = σ 11 (rank).toNat from by rw [show (2 - n : Nat) = rank.toNat by omega])) ?_
        refine k_iload_n dX4_serve_26 3 rfl rfl ?_
        refine k_iconst (v := (-1)) dX4_serve_27 rfl ?_
        refine k_ixor (v := (iI (taken) ^^^ iI (-1))) dX4_serve_28 rfl ?_
        refine k_iand (v := (iI (z_diff (σ 11 (2 - n)) (taken)))) dX4_serve_29 (z_diffI (by omega) (by omega) (by omega)) ?_
        refine k_iload dX4_serve_30 4 rfl ?_
        refine k_callSNr (st := []) (as := [.int (iI (z_diff (σ 11 (2 - n)) (taken))), .int (iI ((i15 : Int)))]) dX4_serve_32 oX7_holds w_515 w_463 rfl (by omega) rfl (Nat.le_of_ble_eq_true rfl) (c_holds (by omega) (by omega)) ?_
        refine k_eqst (congrArg (fun z : Int => Value.int (iI z) :: []) (show zb (z_bit (z_diff (σ 11 (2 - n)) taken) (i15 : Int) = true) = zb (0 ≤ ((i15 : Int)) ∧ ((i15 : Int)) < 16 ∧ z_bit (z_diff (σ 11 (2 - n)) (taken)) ((i15 : Int)) = true) from (f_holds (by omega) (by omega)).symm)) ?_
        refine k_if_eq (tgt := 57) dX4_serve_35 rfl (zb_kr _) (fun h_5 => ?_) (fun h_5 => ?_)
        · have h_5 := zb_0.mp h_5
          refine k_iinc (ls' := [(0, .ref 11), (1, .int (iI (c))), (2, .int (iI (rank))), (3, .int (iI (taken))), (4, .int (iI ((i15 : Int) + 1)))]) dX4_serve_57 4 rfl (by decide) rfl rfl ?_
          refine k_goto (tgt := 15) dX4_serve_60 rfl ?_
          exact ih15 (k_Jstep (P := (fun b : Nat => z_bit (z_diff (σ 11 (2 - n)) taken) (b : Int) && g_srv (σ 11) c n (z_or taken (z_one (b : Int))))) hJ15 (by simp [h_5]))
        · have h_5 := zb_n0.mp h_5
          refine k_aload_n dX4_serve_38 0 rfl rfl (by decide) ?_
          refine k_iload_n dX4_serve_39 1 rfl rfl ?_
          refine k_iload_n dX4_serve_40 2 rfl rfl ?_
          refine k_iconst (v := 1) dX4_serve_41 rfl ?_
          refine k_iadd dX4_serve_42 ?_
          refine k_iload_n dX4_serve_43 3 rfl rfl ?_
          refine k_iconst (v := 1) dX4_serve_44 rfl ?_
          refine k_iload dX4_serve_45 4 rfl ?_
          refine k_ishl (v := (iI (z_one ((i15 : Int))))) dX4_serve_47 (z_oneI (by omega) (by omega)) ?_
          refine k_ior (v := (iI (z_or (taken) (z_one ((i15 : Int)))))) dX4_serve_48 (z_orI (by omega) (Int.le_of_lt (z_one_pos _))) ?_
          refine k_callSr (st := []) (as := [.ref 11, .int (iI (c)), .int (iI (rank + 1)), .int (iI (z_or (taken) (z_one ((i15 : Int)))))]) dX4_serve_49 oX4_serve w_1148 w_1149 rfl (by omega) rfl (Nat.le_of_ble_eq_true rfl) (IH (rank + 1) (z_or (taken) (z_one ((i15 : Int)))) (by omega) ⟨by omega, by omega⟩) ?_
          refine k_if_eq (tgt := 57) dX4_serve_52 rfl (zb_kr _) (fun h_6 => ?_) (fun h_6 => ?_)
          · have h_6 := zb_0.mp h_6
            refine k_iinc (ls' := [(0, .ref 11), (1, .int (iI (c))), (2, .int (iI (rank))), (3, .int (iI (taken))), (4, .int (iI ((i15 : Int) + 1)))]) dX4_serve_57 4 rfl (by decide) rfl rfl ?_
            refine k_goto (tgt := 15) dX4_serve_60 rfl ?_
            exact ih15 (k_Jstep (P := (fun b : Nat => z_bit (z_diff (σ 11 (2 - n)) taken) (b : Int) && g_srv (σ 11) c n (z_or taken (z_one (b : Int))))) hJ15 (by simp [h_5, h_6]))
          · have h_6 := zb_n0.mp h_6
            refine k_iconst (v := 1) dX4_serve_55 rfl ?_
            exact k_retz dX4_serve_56 rfl (Or.inr rfl) rfl (by rw [g_srv, if_neg (by omega), z_any_t (P := (fun b : Nat => z_bit (z_diff (σ 11 (2 - n)) taken) (b : Int) && g_srv (σ 11) c n (z_or taken (z_one (b : Int))))) (by simp [h_5, h_6]) 4 hi15]; exact (zb_t rfl).symm)
theorem u_open_11 (hI : k_Ty σ) (hS : k_Sc σ) (p : Int) (n j : Nat) : 0 ≤ u_open σ p n 11 j ∧ u_open σ p n 11 j < 16 := by
  show 0 ≤ k_fold n _ (σ 11) j ∧ k_fold n _ (σ 11) j < 16
  refine k_fold_inv (P := fun g : Nat → Int => 0 ≤ g j ∧ g j < 16) (hS.1 j) (fun r g h => ?_) n
  unfold k_u1
  split
  · split
    · exact f_open_r hI _
    · decide
  · exact h
theorem u_open_sc (hI : k_Ty σ) (hS : k_Sc σ) (p : Int) (n : Nat) : k_Sc (u_open σ p n) := ⟨u_open_11 hI hS p n, hS.2⟩
set_option maxHeartbeats 4000000 in
theorem c_servesBySearch (hsh : k_Main sh) (hI : k_Ty σ) (hS : k_Sc σ) {p : Int} (hp : -2147483648 ≤ p ∧ p < 2147483648) (hp0 : 0 ≤ p ∧ p < 12) : k_C E mX4_servesBySearch 6 [.ref 10, .int (iI (p))] sh σ 0 0 (k_ret (some (.int (iI (zb (g_srv (u_open σ p 3 11) (σ 5 p.toNat) 3 0 = true))))) sh (u_open σ p 3)) := by
  refine k_C_of (ls0 := [(0, .ref 10), (1, .int (iI (p)))]) rfl pnX4 (fun v hv => k_cat1 rfl hv) (Nat.le_of_ble_eq_true rfl) rfl ?_
  obtain ⟨t0, t1, t2, t3, t4, t5, t6, t7, t8, t9, t10, t11⟩ := id hI
  have q9 := t6 p.toNat
  refine k_aload_n dX4_servesBySearch_0 0 rfl rfl (by decide) ?_
  refine k_iload_n dX4_servesBySearch_1 1 rfl rfl ?_
  refine k_callVr (st := []) (as := [.int (iI (p))]) dX4_servesBySearch_2 oX4_collectOpen w_1143 w_1145 w_23 rfl (by omega) rfl (Nat.le_of_ble_eq_true rfl) (by decide) (s_10 hsh) rfl (c_collectOpen hsh hI ⟨by omega, by omega⟩ (by omega)) ?_
  refine k_aload_n dX4_servesBySearch_5 0 rfl rfl (by decide) ?_
  refine k_get (kf := 1) (v := .ref 11) dX4_servesBySearch_6 kcX4 w_194 (by decide) (by decide) (s_10 hsh) rfl rfl ?_
  refine k_aload_n dX4_servesBySearch_9 0 rfl rfl (by decide) ?_
  refine k_get (kf := 0) (v := .ref 1) dX4_servesBySearch_10 kcX4 w_193 (by decide) (by decide) (s_10 hsh) rfl rfl ?_
  refine k_getN (kf := 6) (v := .ref 5) dX4_servesBySearch_13 kcX5 w_147 (by decide) (by decide) (s_1 hsh) rfl rfl ?_
  refine k_iload_n dX4_servesBySearch_16 1 rfl rfl ?_
  refine k_callSNr (st := [.ref 11]) (as := [.ref 5, .int (iI (p))]) dX4_servesBySearch_17 oX7_read w_474 w_460 rfl (by omega) rfl (Nat.le_of_ble_eq_true rfl) (c_readIn (by decide) (s_5 hsh) (by decide) (by omega) (by omega)) ?_
  refine k_eqst (congrArg (fun z : Int => Value.int (iI z) :: [.ref 11]) (show σ 5 p.toNat = (u_open σ p 3) 5 (p).toNat from rfl)) ?_
  refine k_iconst (v := 0) dX4_servesBySearch_20 rfl ?_
  refine k_iconst (v := 0) dX4_servesBySearch_21 rfl ?_
  refine k_callSr (st := []) (as := [.ref 11, .int (iI (σ 5 p.toNat)), .int (iI (0)), .int (iI (0))]) dX4_servesBySearch_22 oX4_serve w_1148 w_1149 rfl (by omega) rfl (Nat.le_of_ble_eq_true rfl) (c_serve hsh (u_open_11 hI hS p 3) (c := σ 5 p.toNat) ⟨by omega, by omega⟩ 3 (by decide) 0 0 (by decide) ⟨by decide, by decide⟩) ?_
  exact k_retz dX4_servesBySearch_25 rfl (zb_z _) rfl (by rfl)
/-- the blocks that the wishes of a set can use -/
def f_blkWN (us : Nat → Int) (v : Int) (n : Nat) : Int := k_fold n (fun r a => if z_bit v (r : Int) = true then z_or a (us r) else a) 0
def f_blkW (us : Nat → Int) (v : Int) : Int := f_blkWN us v 3
theorem f_blkWN_r {us : Nat → Int} (hus : ∀ j, 0 ≤ us j ∧ us j < 16) (v : Int) : ∀ n : Nat, 0 ≤ f_blkWN us v n ∧ f_blkWN us v n < 16
  | 0 => ⟨Int.le_refl 0, show (0 : Int) < 16 by decide⟩
  | n + 1 => by
    have ih := f_blkWN_r hus v n
    show 0 ≤ (ite _ _ _ : Int) ∧ (ite _ _ _ : Int) < 16
    split
    · exact ⟨z_or_nn _ _, z_or_lt 4 ih.2 (hus n).2⟩
    · exact ih
abbrev f_hall (us : Nat → Int) (c : Int) : Prop := ∀ j : Nat, j < (z_one (z_max 0 c) - 1).toNat → ¬ z_cnt (f_blkW us (1 + (j : Int))) < z_cnt (1 + (j : Int))
theorem z_one_m {c : Int} (h : c ≤ 3) : 1 ≤ z_one (z_max 0 c) ∧ z_one (z_max 0 c) ≤ 8 := by
  have h0 : 0 ≤ z_max 0 c ∧ z_max 0 c ≤ 3 := by unfold z_max; split <;> omega
  have h1 := z_one_pos (z_max 0 c)
  have h2 : z_max 0 c = 0 ∨ z_max 0 c = 1 ∨ z_max 0 c = 2 ∨ z_max 0 c = 3 := by omega
  rcases h2 with e | e | e | e <;> rw [e] <;> decide
set_option maxHeartbeats 4000000 in
theorem c_servesByCounting (hsh : k_Main sh) (hI : k_Ty σ) (hS : k_Sc σ) {p : Int} (hp : -2147483648 ≤ p ∧ p < 2147483648) (hp0 : 0 ≤ p ∧ p < 12) : k_C E mX4_servesByCounting 5 [.ref 10, .int (iI (p))] sh σ 0 0 (k_ret (some (.int (iI (zb (f_hall (u_open σ p 3 11) (σ 5 p.toNat)))))) sh (u_open σ p 3)) := by
  refine k_C_of (ls0 := [(0, .ref 10), (1, .int (iI (p)))]) rfl pnX4 (fun v hv => k_cat1 rfl hv) (Nat.le_of_ble_eq_true rfl) rfl ?_
  obtain ⟨t0, t1, t2, t3, t4, t5, t6, t7, t8, t9, t10, t11⟩ := id hI
  have q9 := t6 p.toNat
  refine k_aload_n dX4_servesByCounting_0 0 rfl rfl (by decide) ?_
  refine k_iload_n dX4_servesByCounting_1 1 rfl rfl ?_
  refine k_callVr (st := []) (as := [.int (iI (p))]) dX4_servesByCounting_2 oX4_collectOpen w_1143 w_1145 w_23 rfl (by omega) rfl (Nat.le_of_ble_eq_true rfl) (by decide) (s_10 hsh) rfl (c_collectOpen hsh hI ⟨by omega, by omega⟩ (by omega)) ?_
  refine k_iconst (v := 1) dX4_servesByCounting_5 rfl ?_
  refine k_iconst (v := 0) dX4_servesByCounting_6 rfl ?_
  refine k_aload_n dX4_servesByCounting_7 0 rfl rfl (by decide) ?_
  refine k_get (kf := 0) (v := .ref 1) dX4_servesByCounting_8 kcX4 w_193 (by decide) (by decide) (s_10 hsh) rfl rfl ?_
  refine k_getN (kf := 6) (v := .ref 5) dX4_servesByCounting_11 kcX5 w_147 (by decide) (by decide) (s_1 hsh) rfl rfl ?_
  refine k_iload_n dX4_servesByCounting_14 1 rfl rfl ?_
  refine k_callSNr (st := [.int (iI (0)), .int (iI (1))]) (as := [.ref 5, .int (iI (p))]) dX4_servesByCounting_15 oX7_read w_474 w_460 rfl (by omega) rfl (Nat.le_of_ble_eq_true rfl) (c_readIn (by decide) (s_5 hsh) (by decide) (by omega) (by omega)) ?_
  refine k_eqst (congrArg (fun z : Int => Value.int (iI z) :: [.int (iI (0)), .int (iI (1))]) (show σ 5 p.toNat = (u_open σ p 3) 5 (p).toNat from rfl)) ?_
  refine k_mmax (st := [.int (iI (1))]) dX4_servesByCounting_18 w_1162 w_930 (by decide) (Nat.le_of_ble_eq_true rfl) ⟨by omega, by omega⟩ ⟨by omega, by omega⟩ ?_
  refine k_eqst (congrArg (fun z : Int => Value.int (iI z) :: [.int (iI (1))]) (show z_max 0 (σ 5 p.toNat) = z_max (0) (σ 5 p.toNat) from rfl)) ?_
  have q10 : 0 ≤ z_max 0 (σ 5 p.toNat) ∧ z_max 0 (σ 5 p.toNat) ≤ 3 := by unfold z_max; split <;> omega
  have q11 := z_one_m (c := σ 5 p.toNat) (by omega)
  refine k_ishl (v := (iI (z_one (z_max 0 (σ 5 p.toNat))))) dX4_servesByCounting_21 (z_oneI (by omega) (by omega)) ?_
  refine k_istore_n (ls' := [(0, .ref 10), (1, .int (iI (p))), (2, .int (iI (z_one (z_max 0 (σ 5 p.toNat)))))]) dX4_servesByCounting_22 rfl (by decide) rfl rfl ?_
  refine k_iconst (v := 1) dX4_servesByCounting_23 rfl ?_
  refine k_istore_n (ls' := [(0, .ref 10), (1, .int (iI (p))), (2, .int (iI (z_one (z_max 0 (σ 5 p.toNat))))), (3, .int (iI (1)))]) dX4_servesByCounting_24 rfl (by decide) rfl rfl ?_
  refine k_downI (P := fun i25 : Nat => k_V E mX4_servesByCounting _ 25 [(0, .ref 10), (1, .int (iI (p))), (2, .int (iI (z_one (z_max 0 (σ 5 p.toNat))))), (3, .int (iI (1 + (i25 : Int))))] [] sh (u_open σ p 3) _ _ _) (J := fun i25 : Nat => ∀ j : Nat, j < i25 → ¬ z_cnt (f_blkW (u_open σ p 3 11) (1 + (j : Int))) < z_cnt (1 + (j : Int))) ((z_one (z_max 0 (σ 5 p.toNat)) - 1).toNat) (fun j hj => absurd hj (Nat.not_lt_zero j)) ?_ ?_
  · intro hJ25
    refine k_iload_n dX4_servesByCounting_25 3 rfl rfl ?_
    refine k_iload_n dX4_servesByCounting_26 2 rfl rfl ?_
    refine k_icmp_ge (tgt := 91) dX4_servesByCounting_27 rfl ⟨by omega, by omega⟩ ⟨by omega, by omega⟩ (fun h_1 => ?_) (fun h_1 => absurd h_1 (by omega))
    refine k_iconst (v := 1) dX4_servesByCounting_91 rfl ?_
    exact k_retz dX4_servesByCounting_92 rfl (Or.inr rfl) rfl (by exact (zb_t hJ25).symm)
  · intro i25 hi25 hJ25 ih25
    refine k_iload_n dX4_servesByCounting_25 3 rfl rfl ?_
    refine k_iload_n dX4_servesByCounting_26 2 rfl rfl ?_
    refine k_icmp_ge (tgt := 91) dX4_servesByCounting_27 rfl ⟨by omega, by omega⟩ ⟨by omega, by omega⟩ (fun h_2 => absurd h_2 (by omega)) (fun h_2 => ?_)
    refine k_iconst (v := 0) dX4_servesByCounting_30 rfl ?_
    refine k_istore (ls' := [(0, .ref 10), (1, .int (iI (p))), (2, .int (iI (z_one (z_max 0 (σ 5 p.toNat))))), (3, .int (iI (1 + (i25 : Int)))), (4, .int (iI (0)))]) dX4_servesByCounting_31 (by decide) rfl rfl ?_
    refine k_iconst (v := 0) dX4_servesByCounting_33 rfl ?_
    refine k_istore (ls' := [(0, .ref 10), (1, .int (iI (p))), (2, .int (iI (z_one (z_max 0 (σ 5 p.toNat))))), (3, .int (iI (1 + (i25 : Int)))), (4, .int (iI (0))), (5, .int (iI (0)))]) dX4_servesByCounting_34 (by decide) rfl rfl ?_
    refine k_down (P := fun i36 : Nat => k_V E mX4_servesByCounting _ 36 [(0, .ref 10), (1, .int (iI (p))), (2, .int (iI (z_one (z_max 0 (σ 5 p.toNat))))), (3, .int (iI (1 + (i25 : Int)))), (4, .int (iI (f_blkWN (u_open σ p 3 11) (1 + (i25 : Int)) i36))), (5, .int (iI ((i36 : Int))))] [] sh (u_open σ p 3) _ _ _) (3) ?_ ?_
    · skip
      have q1 := f_blkWN_r (u_open_11 hI hS p 3) (1 + (i25 : Int)) (3)
      have q2 := z_cnt_r (1 + (i25 : Int))
      have q3 := z_cnt_r (f_blkWN (u_open σ p 3 11) (1 + (i25 : Int)) (3))
      have q4 := u_open_11 hI hS p 3 (3)
      refine k_iload dX4_servesByCounting_36 5 rfl ?_
      refine k_iconst (v := 3) dX4_servesByCounting_38 rfl ?_
      refine k_icmp_ge (tgt := 71) dX4_servesByCounting_39 rfl ⟨by omega, by omega⟩ ⟨by decide, by decide⟩ (fun h_3 => ?_) (fun h_3 => absurd h_3 (by omega))
      refine k_iload dX4_servesByCounting_71 4 rfl ?_
      refine k_callSr (st := []) (as := [.int (iI (f_blkWN (u_open σ p 3 11) (1 + (i25 : Int)) (3)))]) dX4_servesByCounting_73 oJ6_bitCount_0f7a4 w_1163 w_492 rfl (by omega) rfl (Nat.le_of_ble_eq_true rfl) (c_bitCount ⟨by omega, by omega⟩) ?_
      refine k_iload_n dX4_servesByCounting_76 3 rfl rfl ?_
      refine k_callSr (st := [.int (iI (z_cnt (f_blkWN (u_open σ p 3 11) (1 + (i25 : Int)) (3))))]) (as := [.int (iI (1 + (i25 : Int)))]) dX4_servesByCounting_77 oJ6_bitCount_0f7a4 w_1163 w_492 rfl (by omega) rfl (Nat.le_of_ble_eq_true rfl) (c_bitCount ⟨by omega, by omega⟩) ?_
      refine k_icmp_ge (tgt := 85) dX4_servesByCounting_80 rfl ⟨by omega, by omega⟩ ⟨by omega, by omega⟩ (fun h_4 => ?_) (fun h_4 => ?_)
      · refine k_iinc (ls' := [(0, .ref 10), (1, .int (iI (p))), (2, .int (iI (z_one (z_max 0 (σ 5 p.toNat))))), (3, .int (iI (1 + (i25 : Int) + 1))), (4, .int (iI (f_blkWN (u_open σ p 3 11) (1 + (i25 : Int)) (3)))), (5, .int (iI (((3 : Nat) : Int))))]) dX4_servesByCounting_85 3 rfl (by decide) rfl rfl ?_
        refine k_goto (tgt := 25) dX4_servesByCounting_88 rfl ?_
        refine k_dropr (ls' := [(0, .ref 10), (1, .int (iI (p))), (2, .int (iI (z_one (z_max 0 (σ 5 p.toNat))))), (3, .int (iI (1 + (i25 : Int) + 1)))]) (ex := [(4, .int (iI (f_blkWN (u_open σ p 3 11) (1 + (i25 : Int)) (3)))), (5, .int (iI (((3 : Nat) : Int))))]) rfl ?_
        refine k_lrw (q := 3) (j := 3) (a' := 1 + ((i25 + 1 : Nat) : Int)) (ls' := [(0, .ref 10), (1, .int (iI (p))), (2, .int (iI (z_one (z_max 0 (σ 5 p.toNat))))), (3, .int (iI (1 + ((i25 + 1 : Nat) : Int))))]) rfl (by omega) rfl ?_
        exact ih25 (fun j hj q => by by_cases e : j = i25; subst e; exact absurd q (by show ¬ z_cnt (f_blkWN (u_open σ p 3 11) (1 + (j : Int)) 3) < _; omega); exact hJ25 j (by omega) q)
      · refine k_iconst (v := 0) dX4_servesByCounting_83 rfl ?_
        exact k_retz dX4_servesByCounting_84 rfl (Or.inl rfl) rfl (by exact (zb_f (fun q => q i25 hi25 h_4)).symm)
    · intro i36 hi36 ih36
      have q1 := f_blkWN_r (u_open_11 hI hS p 3) (1 + (i25 : Int)) i36
      have q2 := z_cnt_r (1 + (i25 : Int))
      have q3 := z_cnt_r (f_blkWN (u_open σ p 3 11) (1 + (i25 : Int)) i36)
      have q4 := u_open_11 hI hS p 3 i36
      refine k_iload dX4_servesByCounting_36 5 rfl ?_
      refine k_iconst (v := 3) dX4_servesByCounting_38 rfl ?_
      refine k_icmp_ge (tgt := 71) dX4_servesByCounting_39 rfl ⟨by omega, by omega⟩ ⟨by decide, by decide⟩ (fun h_5 => absurd h_5 (by omega)) (fun h_5 => ?_)
      refine k_iload_n dX4_servesByCounting_42 3 rfl rfl ?_
      refine k_iload dX4_servesByCounting_43 5 rfl ?_
      refine k_callSNr (st := []) (as := [.int (iI (1 + (i25 : Int))), .int (iI ((i36 : Int)))]) dX4_servesByCounting_45 oX7_holds w_515 w_463 rfl (by omega) rfl (Nat.le_of_ble_eq_true rfl) (c_holds (by omega) (by omega)) ?_
      refine k_eqst (congrArg (fun z : Int => Value.int (iI z) :: []) (show zb (z_bit (1 + (i25 : Int)) (i36 : Int) = true) = zb (0 ≤ ((i36 : Int)) ∧ ((i36 : Int)) < 16 ∧ z_bit (1 + (i25 : Int)) ((i36 : Int)) = true) from (f_holds (by omega) (by omega)).symm)) ?_
      refine k_if_eq (tgt := 65) dX4_servesByCounting_48 rfl (zb_kr _) (fun h_6 => ?_) (fun h_6 => ?_)
      · have h_6 := zb_0.mp h_6
        refine k_iinc (ls' := [(0, .ref 10), (1, .int (iI (p))), (2, .int (iI (z_one (z_max 0 (σ 5 p.toNat))))), (3, .int (iI (1 + (i25 : Int)))), (4, .int (iI (f_blkWN (u_open σ p 3 11) (1 + (i25 : Int)) i36))), (5, .int (iI ((i36 : Int) + 1)))]) dX4_servesByCounting_65 5 rfl (by decide) rfl rfl ?_
        refine k_goto (tgt := 36) dX4_servesByCounting_68 rfl ?_
        refine k_lrw (q := 4) (j := 4) (a' := f_blkWN (u_open σ p 3 11) (1 + (i25 : Int)) (i36 + 1)) (ls' := [(0, .ref 10), (1, .int (iI (p))), (2, .int (iI (z_one (z_max 0 (σ 5 p.toNat))))), (3, .int (iI (1 + (i25 : Int)))), (4, .int (iI (f_blkWN (u_open σ p 3 11) (1 + (i25 : Int)) (i36 + 1)))), (5, .int (iI ((i36 : Int) + 1)))]) rfl (if_neg h_6).symm rfl ?_
        exact ih36
      · have h_6 := zb_n0.mp h_6
        refine k_iload dX4_servesByCounting_51 4 rfl ?_
        refine k_aload_n dX4_servesByCounting_53 0 rfl rfl (by decide) ?_
        refine k_get (kf := 1) (v := .ref 11) dX4_servesByCounting_54 kcX4 w_194 (by decide) (by decide) (s_10 hsh) rfl rfl ?_
        refine k_iload dX4_servesByCounting_57 5 rfl ?_
        refine k_callSNr (st := [.int (iI (f_blkWN (u_open σ p 3 11) (1 + (i25 : Int)) i36))]) (as := [.ref 11, .int (iI ((i36 : Int)))]) dX4_servesByCounting_59 oX7_read w_474 w_460 rfl (by omega) rfl (Nat.le_of_ble_eq_true rfl) (c_readIn (by decide) (s_11 hsh) (by decide) (by omega) (by omega)) ?_
        refine k_eqst (congrArg (fun z : Int => Value.int (iI z) :: [.int (iI (f_blkWN (u_open σ p 3 11) (1 + (i25 : Int)) i36))]) (show u_open σ p 3 11 i36 = (u_open σ p 3) 11 ((i36 : Int)).toNat from rfl)) ?_
        refine k_ior (v := (iI (z_or (f_blkWN (u_open σ p 3 11) (1 + (i25 : Int)) i36) (u_open σ p 3 11 i36)))) dX4_servesByCounting_62 (z_orI (by omega) (by omega)) ?_
        refine k_istore (ls' := [(0, .ref 10), (1, .int (iI (p))), (2, .int (iI (z_one (z_max 0 (σ 5 p.toNat))))), (3, .int (iI (1 + (i25 : Int)))), (4, .int (iI (z_or (f_blkWN (u_open σ p 3 11) (1 + (i25 : Int)) i36) (u_open σ p 3 11 i36)))), (5, .int (iI ((i36 : Int))))]) dX4_servesByCounting_63 (by decide) rfl rfl ?_
        refine k_iinc (ls' := [(0, .ref 10), (1, .int (iI (p))), (2, .int (iI (z_one (z_max 0 (σ 5 p.toNat))))), (3, .int (iI (1 + (i25 : Int)))), (4, .int (iI (z_or (f_blkWN (u_open σ p 3 11) (1 + (i25 : Int)) i36) (u_open σ p 3 11 i36)))), (5, .int (iI ((i36 : Int) + 1)))]) dX4_servesByCounting_65 5 rfl (by decide) rfl rfl ?_
        refine k_goto (tgt := 36) dX4_servesByCounting_68 rfl ?_
        refine k_lrw (q := 4) (j := 4) (a' := f_blkWN (u_open σ p 3 11) (1 + (i25 : Int)) (i36 + 1)) (ls' := [(0, .ref 10), (1, .int (iI (p))), (2, .int (iI (z_one (z_max 0 (σ 5 p.toNat))))), (3, .int (iI (1 + (i25 : Int)))), (4, .int (iI (f_blkWN (u_open σ p 3 11) (1 + (i25 : Int)) (i36 + 1)))), (5, .int (iI ((i36 : Int) + 1)))]) rfl (if_pos h_6).symm rfl ?_
        exact ih36
end K_O
