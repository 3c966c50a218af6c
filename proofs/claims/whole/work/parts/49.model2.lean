/-! ===== THE MODEL: more readers, and what changes its row ===== -/
section K_M2
variable {E : k_E} {sh : List k_Sh} {σ : Nat → Nat → Int} {r : Nat → Int}
theorem k_u1_same {f : Nat → Int} {j : Nat} {z : Int} : k_u1 f j z j = z := if_pos rfl
theorem k_u1_ne {f : Nat → Int} {i j : Nat} {z : Int} (h : ¬ i = j) : k_u1 f j z i = f i := if_neg h
def r_isServed_20 (r : Nat → Int) (p : Int) (x20 : Int) : Bool := decide (x20 = 1)
def b_isServed_20 (r : Nat → Int) (p : Int) (i20 : Nat) (x20 : Int) : Int := if x20 = 0 then 0 else if (m_blockOfSubject r p (r (57 + 3 * p + (i20 : Int)).toNat)) = (-1) then 0 else 1
def r_isServed_20_2 (r : Nat → Int) (p : Int) (x20 : Int) : Bool := decide (x20 = 1)
def b_isServed_20_2 (r : Nat → Int) (p : Int) (i20 : Nat) (x20 : Int) : Int := if x20 = 0 then 0 else if (m_blockOfSubject r p (r (57 + 3 * p + (i20 : Int)).toNat)) = (-1) then 0 else 1
def m_isServed (r : Nat → Int) (p : Int) : Bool := if (r (45 + p).toNat) ≤ 0 then (r_isServed_20 r p) (k_it (b_isServed_20 r p) ((r (45 + p).toNat).toNat) 0 (0)) else (r_isServed_20_2 r p) (k_it (b_isServed_20_2 r p) ((r (45 + p).toNat).toNat) 0 (1))
set_option maxRecDepth 100000 in
set_option maxHeartbeats 4000000 in
theorem c8_isServed (hsh : k_Main sh) (hM : k_Mo (σ 124)) {p : Int} (h_p : 0 ≤ p ∧ p < 12) : k_C E mX8_isServed 3 [.ref 123, .int (iI (p))] sh σ 0 0 ((k_pB sh σ) (m_isServed (σ 124) p)) := by
  refine k_C_of (ls0 := [(0, .ref 123), (1, .int (iI (p)))]) rfl pnX8 (fun v hv => k_cat1 rfl hv) (Nat.le_of_ble_eq_true rfl) rfl ?_
  obtain ⟨⟨t0, t0b⟩, ⟨t1, t1b⟩, ⟨t2, t2b⟩, ⟨t3, t3b⟩, -⟩ := id hM
  unfold m_isServed
  refine k_aload_n dX8_isServed_0 0 rfl rfl (by decide) ?_
  refine k_get (kf := 0) (v := .ref 124) dX8_isServed_1 kcX8 w_1747 (by decide) (by decide) (s_123 hsh) rfl rfl ?_
  refine k_bipush (v := 45) dX8_isServed_4 (by decide) ?_
  refine k_iload_n dX8_isServed_6 1 rfl rfl ?_
  refine k_iadd dX8_isServed_7 ?_
  refine k_iald dX8_isServed_8 (by decide) (s_124 hsh) (by omega) (by omega) (by decide) ?_
  have q1 := k_Mo_many hM (x := 45 + p) (by omega) (by omega)
  refine k_if_le (tgt := 16) dX8_isServed_9 rfl ⟨by omega, by omega⟩ (fun h2 => ?_) (fun h2 => ?_)
  · refine k_ift (F := (k_pB sh σ)) h2 ?_
    refine k_iconst (v := 0) dX8_isServed_16 rfl ?_
    refine k_istore_n (ls' := [(0, .ref 123), (1, .int (iI (p))), (2, .int (iI (0)))]) dX8_isServed_17 rfl (by decide) rfl rfl ?_
    refine k_iconst (v := 0) dX8_isServed_18 rfl ?_
    refine k_istore_n (ls' := [(0, .ref 123), (1, .int (iI (p))), (2, .int (iI (0))), (3, .int (iI (0)))]) dX8_isServed_19 rfl (by decide) rfl rfl ?_
    refine k_loop (α := Int) (P := fun (i20 : Nat) (x20 : Int) Q => k_V E mX8_isServed _ 20 [(0, .ref 123), (1, .int (iI (p))), (2, .int (iI (x20))), (3, .int (iI ((i20 : Int))))] [] sh σ _ _ Q) (J := fun (i20 : Nat) (x20 : Int) => 0 ≤ x20 ∧ x20 ≤ 1) (((σ 124) (45 + p).toNat).toNat) (b_isServed_20 (σ 124) p) (0) (F := fun t => (k_pB sh σ) ((r_isServed_20 (σ 124) p) t)) (show 0 ≤ (0 : Int) ∧ (0 : Int) ≤ 1 from by omega) ?_ ?_
    · intro x20 hJ20
      have hJ20 : 0 ≤ x20 ∧ x20 ≤ 1 := hJ20
      have hU20 := hJ20
      show k_V E mX8_isServed _ 20 [(0, .ref 123), (1, .int (iI (p))), (2, .int (iI (x20))), (3, .int (iI (((((σ 124) (45 + p).toNat).toNat : Nat) : Int))))] [] sh σ _ _ ((k_pB sh σ) ((r_isServed_20 (σ 124) p) x20))
      unfold r_isServed_20
      refine k_iload_n dX8_isServed_20 3 rfl rfl ?_
      refine k_aload_n dX8_isServed_21 0 rfl rfl (by decide) ?_
      refine k_get (kf := 0) (v := .ref 124) dX8_isServed_22 kcX8 w_1747 (by decide) (by decide) (s_123 hsh) rfl rfl ?_
      refine k_bipush (v := 45) dX8_isServed_25 (by decide) ?_
      refine k_iload_n dX8_isServed_27 1 rfl rfl ?_
      refine k_iadd dX8_isServed_28 ?_
      refine k_iald dX8_isServed_29 (by decide) (s_124 hsh) (by omega) (by omega) (by decide) ?_
      have q4 := k_Mo_many hM (x := 45 + p) (by omega) (by omega)
      refine k_icmp_ge (tgt := 64) dX8_isServed_30 rfl ⟨by omega, by omega⟩ ⟨by omega, by omega⟩ (fun h5 => ?_) (fun h5 => absurd h5 (by omega))
      refine k_iload_n dX8_isServed_64 2 rfl rfl ?_
      exact k_retzP dX8_isServed_65 rfl (by omega) rfl (k_lfV (by omega)) True.intro
    · intro n20 i20 x20 hi20 hJ20 ih20
      have hJ20 : 0 ≤ x20 ∧ x20 ≤ 1 := hJ20
      have hU20 := hJ20
      show k_V E mX8_isServed _ 20 [(0, .ref 123), (1, .int (iI (p))), (2, .int (iI (x20))), (3, .int (iI ((i20 : Int))))] [] sh σ _ _ ((fun t => (k_pB sh σ) ((r_isServed_20 (σ 124) p) (k_it (b_isServed_20 (σ 124) p) n20 (i20 + 1) t))) ((b_isServed_20 (σ 124) p) i20 x20))
      unfold b_isServed_20
      refine k_iload_n dX8_isServed_20 3 rfl rfl ?_
      refine k_aload_n dX8_isServed_21 0 rfl rfl (by decide) ?_
      refine k_get (kf := 0) (v := .ref 124) dX8_isServed_22 kcX8 w_1747 (by decide) (by decide) (s_123 hsh) rfl rfl ?_
      refine k_bipush (v := 45) dX8_isServed_25 (by decide) ?_
      refine k_iload_n dX8_isServed_27 1 rfl rfl ?_
      refine k_iadd dX8_isServed_28 ?_
      refine k_iald dX8_isServed_29 (by decide) (s_124 hsh) (by omega) (by omega) (by decide) ?_
      have q6 := k_Mo_many hM (x := 45 + p) (by omega) (by omega)
      refine k_icmp_ge (tgt := 64) dX8_isServed_30 rfl ⟨by omega, by omega⟩ ⟨by omega, by omega⟩ (fun h7 => absurd h7 (by omega)) (fun h7 => ?_)
      refine k_iload_n dX8_isServed_33 2 rfl rfl ?_
      refine k_if_eq (tgt := 56) dX8_isServed_34 rfl ⟨by omega, by omega⟩ (fun h8 => ?_) (fun h8 => ?_)
      · refine k_ift (F := (fun t => (k_pB sh σ) ((r_isServed_20 (σ 124) p) (k_it (b_isServed_20 (σ 124) p) n20 (i20 + 1) t)))) h8 ?_
        refine k_iconst (v := 0) dX8_isServed_56 rfl ?_
        refine k_istore_n (ls' := [(0, .ref 123), (1, .int (iI (p))), (2, .int (iI (0))), (3, .int (iI ((i20 : Int))))]) dX8_isServed_57 rfl (by decide) rfl rfl ?_
        refine k_iinc (ls' := [(0, .ref 123), (1, .int (iI (p))), (2, .int (iI (0))), (3, .int (iI ((i20 : Int) + 1)))]) dX8_isServed_58 3 rfl (by decide) rfl rfl ?_
        refine k_goto (tgt := 20) dX8_isServed_61 rfl ?_
        exact ih20 (0) (show 0 ≤ (0 : Int) ∧ (0 : Int) ≤ 1 from by omega)
      · refine k_iff (F := (fun t => (k_pB sh σ) ((r_isServed_20 (σ 124) p) (k_it (b_isServed_20 (σ 124) p) n20 (i20 + 1) t)))) h8 ?_
        refine k_aload_n dX8_isServed_37 0 rfl rfl (by decide) ?_
        refine k_iload_n dX8_isServed_38 1 rfl rfl ?_
        refine k_aload_n dX8_isServed_39 0 rfl rfl (by decide) ?_
        refine k_iload_n dX8_isServed_40 1 rfl rfl ?_
        refine k_iload_n dX8_isServed_41 3 rfl rfl ?_
        refine k_callVr (st := [.int (iI (p)), .ref 123]) (as := [.int (iI (p)), .int (iI ((i20 : Int)))]) dX8_isServed_42 oX8_wish w_2000 w_2002 w_51 rfl (by omega) rfl (Nat.le_of_ble_eq_true rfl) (by decide) (s_123 hsh) rfl (c8_wish (σ := σ) hsh hM (by omega) (by omega)) ?_
        have q9 := k_Mo_wish hM (x := 57 + 3 * p + (i20 : Int)) (by omega) (by omega)
        refine k_callVrP (st := []) (as := [.int (iI (p)), .int (iI ((σ 124) (57 + 3 * p + (i20 : Int)).toNat))]) dX8_isServed_45 oX8_blockOfSubject w_2032 w_2034 w_53 rfl (by omega) rfl (Nat.le_of_ble_eq_true rfl) (by decide) (s_123 hsh) rfl (c8_blockOfSubject hsh hM (by omega) (by omega)) (fun z11 => ?_)
        have z11 : -1 ≤ m_blockOfSubject (σ 124) p ((σ 124) (57 + 3 * p + (i20 : Int)).toNat) ∧ m_blockOfSubject (σ 124) p ((σ 124) (57 + 3 * p + (i20 : Int)).toNat) ≤ 3 := z11
        refine k_iconst (v := (-1)) dX8_isServed_48 rfl ?_
        refine k_icmp_eq (tgt := 56) dX8_isServed_49 rfl ⟨by omega, by omega⟩ ⟨by decide, by decide⟩ (fun h12 => ?_) (fun h12 => ?_)
        · refine k_ift (F := (fun t => (k_pB sh σ) ((r_isServed_20 (σ 124) p) (k_it (b_isServed_20 (σ 124) p) n20 (i20 + 1) t)))) h12 ?_
          refine k_iconst (v := 0) dX8_isServed_56 rfl ?_
          refine k_istore_n (ls' := [(0, .ref 123), (1, .int (iI (p))), (2, .int (iI (0))), (3, .int (iI ((i20 : Int))))]) dX8_isServed_57 rfl (by decide) rfl rfl ?_
          refine k_iinc (ls' := [(0, .ref 123), (1, .int (iI (p))), (2, .int (iI (0))), (3, .int (iI ((i20 : Int) + 1)))]) dX8_isServed_58 3 rfl (by decide) rfl rfl ?_
          refine k_goto (tgt := 20) dX8_isServed_61 rfl ?_
          exact ih20 (0) (show 0 ≤ (0 : Int) ∧ (0 : Int) ≤ 1 from by omega)
        · refine k_iff (F := (fun t => (k_pB sh σ) ((r_isServed_20 (σ 124) p) (k_it (b_isServed_20 (σ 124) p) n20 (i20 + 1) t)))) h12 ?_
          refine k_iconst (v := 1) dX8_isServed_52 rfl ?_
          refine k_goto (tgt := 57) dX8_isServed_53 rfl ?_
          refine k_istore_n (ls' := [(0, .ref 123), (1, .int (iI (p))), (2, .int (iI (1))), (3, .int (iI ((i20 : Int))))]) dX8_isServed_57 rfl (by decide) rfl rfl ?_
          refine k_iinc (ls' := [(0, .ref 123), (1, .int (iI (p))), (2, .int (iI (1))), (3, .int (iI ((i20 : Int) + 1)))]) dX8_isServed_58 3 rfl (by decide) rfl rfl ?_
          refine k_goto (tgt := 20) dX8_isServed_61 rfl ?_
          exact ih20 (1) (show 0 ≤ (1 : Int) ∧ (1 : Int) ≤ 1 from by omega)
  · refine k_iff (F := (k_pB sh σ)) (Int.not_le.mpr h2) ?_
    refine k_iconst (v := 1) dX8_isServed_12 rfl ?_
    refine k_goto (tgt := 17) dX8_isServed_13 rfl ?_
    refine k_istore_n (ls' := [(0, .ref 123), (1, .int (iI (p))), (2, .int (iI (1)))]) dX8_isServed_17 rfl (by decide) rfl rfl ?_
    refine k_iconst (v := 0) dX8_isServed_18 rfl ?_
    refine k_istore_n (ls' := [(0, .ref 123), (1, .int (iI (p))), (2, .int (iI (1))), (3, .int (iI (0)))]) dX8_isServed_19 rfl (by decide) rfl rfl ?_
    refine k_loop (α := Int) (P := fun (i20 : Nat) (x20 : Int) Q => k_V E mX8_isServed _ 20 [(0, .ref 123), (1, .int (iI (p))), (2, .int (iI (x20))), (3, .int (iI ((i20 : Int))))] [] sh σ _ _ Q) (J := fun (i20 : Nat) (x20 : Int) => 0 ≤ x20 ∧ x20 ≤ 1) (((σ 124) (45 + p).toNat).toNat) (b_isServed_20_2 (σ 124) p) (1) (F := fun t => (k_pB sh σ) ((r_isServed_20_2 (σ 124) p) t)) (show 0 ≤ (1 : Int) ∧ (1 : Int) ≤ 1 from by omega) ?_ ?_
    · intro x20 hJ20
      have hJ20 : 0 ≤ x20 ∧ x20 ≤ 1 := hJ20
      have hU20 := hJ20
      show k_V E mX8_isServed _ 20 [(0, .ref 123), (1, .int (iI (p))), (2, .int (iI (x20))), (3, .int (iI (((((σ 124) (45 + p).toNat).toNat : Nat) : Int))))] [] sh σ _ _ ((k_pB sh σ) ((r_isServed_20_2 (σ 124) p) x20))
      unfold r_isServed_20_2
      refine k_iload_n dX8_isServed_20 3 rfl rfl ?_
      refine k_aload_n dX8_isServed_21 0 rfl rfl (by decide) ?_
      refine k_get (kf := 0) (v := .ref 124) dX8_isServed_22 kcX8 w_1747 (by decide) (by decide) (s_123 hsh) rfl rfl ?_
      refine k_bipush (v := 45) dX8_isServed_25 (by decide) ?_
      refine k_iload_n dX8_isServed_27 1 rfl rfl ?_
      refine k_iadd dX8_isServed_28 ?_
      refine k_iald dX8_isServed_29 (by decide) (s_124 hsh) (by omega) (by omega) (by decide) ?_
      have q14 := k_Mo_many hM (x := 45 + p) (by omega) (by omega)
      refine k_icmp_ge (tgt := 64) dX8_isServed_30 rfl ⟨by omega, by omega⟩ ⟨by omega, by omega⟩ (fun h15 => ?_) (fun h15 => absurd h15 (by omega))
      refine k_iload_n dX8_isServed_64 2 rfl rfl ?_
      exact k_retzP dX8_isServed_65 rfl (by omega) rfl (k_lfV (by omega)) True.intro
    · intro n20 i20 x20 hi20 hJ20 ih20
      have hJ20 : 0 ≤ x20 ∧ x20 ≤ 1 := hJ20
      have hU20 := hJ20
      show k_V E mX8_isServed _ 20 [(0, .ref 123), (1, .int (iI (p))), (2, .int (iI (x20))), (3, .int (iI ((i20 : Int))))] [] sh σ _ _ ((fun t => (k_pB sh σ) ((r_isServed_20_2 (σ 124) p) (k_it (b_isServed_20_2 (σ 124) p) n20 (i20 + 1) t))) ((b_isServed_20_2 (σ 124) p) i20 x20))
      unfold b_isServed_20_2
      refine k_iload_n dX8_isServed_20 3 rfl rfl ?_
      refine k_aload_n dX8_isServed_21 0 rfl rfl (by decide) ?_
      refine k_get (kf := 0) (v := .ref 124) dX8_isServed_22 kcX8 w_1747 (by decide) (by decide) (s_123 hsh) rfl rfl ?_
      refine k_bipush (v := 45) dX8_isServed_25 (by decide) ?_
      refine k_iload_n dX8_isServed_27 1 rfl rfl ?_
      refine k_iadd dX8_isServed_28 ?_
      refine k_iald dX8_isServed_29 (by decide) (s_124 hsh) (by omega) (by omega) (by decide) ?_
      have q16 := k_Mo_many hM (x := 45 + p) (by omega) (by omega)
      refine k_icmp_ge (tgt := 64) dX8_isServed_30 rfl ⟨by omega, by omega⟩ ⟨by omega, by omega⟩ (fun h17 => absurd h17 (by omega)) (fun h17 => ?_)
      refine k_iload_n dX8_isServed_33 2 rfl rfl ?_
      refine k_if_eq (tgt := 56) dX8_isServed_34 rfl ⟨by omega, by omega⟩ (fun h18 => ?_) (fun h18 => ?_)
      · refine k_ift (F := (fun t => (k_pB sh σ) ((r_isServed_20_2 (σ 124) p) (k_it (b_isServed_20_2 (σ 124) p) n20 (i20 + 1) t)))) h18 ?_
        refine k_iconst (v := 0) dX8_isServed_56 rfl ?_
        refine k_istore_n (ls' := [(0, .ref 123), (1, .int (iI (p))), (2, .int (iI (0))), (3, .int (iI ((i20 : Int))))]) dX8_isServed_57 rfl (by decide) rfl rfl ?_
        refine k_iinc (ls' := [(0, .ref 123), (1, .int (iI (p))), (2, .int (iI (0))), (3, .int (iI ((i20 : Int) + 1)))]) dX8_isServed_58 3 rfl (by decide) rfl rfl ?_
        refine k_goto (tgt := 20) dX8_isServed_61 rfl ?_
        exact ih20 (0) (show 0 ≤ (0 : Int) ∧ (0 : Int) ≤ 1 from by omega)
      · refine k_iff (F := (fun t => (k_pB sh σ) ((r_isServed_20_2 (σ 124) p) (k_it (b_isServed_20_2 (σ 124) p) n20 (i20 + 1) t)))) h18 ?_
        refine k_aload_n dX8_isServed_37 0 rfl rfl (by decide) ?_
        refine k_iload_n dX8_isServed_38 1 rfl rfl ?_
        refine k_aload_n dX8_isServed_39 0 rfl rfl (by decide) ?_
        refine k_iload_n dX8_isServed_40 1 rfl rfl ?_
        refine k_iload_n dX8_isServed_41 3 rfl rfl ?_
        refine k_callVr (st := [.int (iI (p)), .ref 123]) (as := [.int (iI (p)), .int (iI ((i20 : Int)))]) dX8_isServed_42 oX8_wish w_2000 w_2002 w_51 rfl (by omega) rfl (Nat.le_of_ble_eq_true rfl) (by decide) (s_123 hsh) rfl (c8_wish (σ := σ) hsh hM (by omega) (by omega)) ?_
        have q19 := k_Mo_wish hM (x := 57 + 3 * p + (i20 : Int)) (by omega) (by omega)
        refine k_callVrP (st := []) (as := [.int (iI (p)), .int (iI ((σ 124) (57 + 3 * p + (i20 : Int)).toNat))]) dX8_isServed_45 oX8_blockOfSubject w_2032 w_2034 w_53 rfl (by omega) rfl (Nat.le_of_ble_eq_true rfl) (by decide) (s_123 hsh) rfl (c8_blockOfSubject hsh hM (by omega) (by omega)) (fun z21 => ?_)
        have z21 : -1 ≤ m_blockOfSubject (σ 124) p ((σ 124) (57 + 3 * p + (i20 : Int)).toNat) ∧ m_blockOfSubject (σ 124) p ((σ 124) (57 + 3 * p + (i20 : Int)).toNat) ≤ 3 := z21
        refine k_iconst (v := (-1)) dX8_isServed_48 rfl ?_
        refine k_icmp_eq (tgt := 56) dX8_isServed_49 rfl ⟨by omega, by omega⟩ ⟨by decide, by decide⟩ (fun h22 => ?_) (fun h22 => ?_)
        · refine k_ift (F := (fun t => (k_pB sh σ) ((r_isServed_20_2 (σ 124) p) (k_it (b_isServed_20_2 (σ 124) p) n20 (i20 + 1) t)))) h22 ?_
          refine k_iconst (v := 0) dX8_isServed_56 rfl ?_
          refine k_istore_n (ls' := [(0, .ref 123), (1, .int (iI (p))), (2, .int (iI (0))), (3, .int (iI ((i20 : Int))))]) dX8_isServed_57 rfl (by decide) rfl rfl ?_
          refine k_iinc (ls' := [(0, .ref 123), (1, .int (iI (p))), (2, .int (iI (0))), (3, .int (iI ((i20 : Int) + 1)))]) dX8_isServed_58 3 rfl (by decide) rfl rfl ?_
          refine k_goto (tgt := 20) dX8_isServed_61 rfl ?_
          exact ih20 (0) (show 0 ≤ (0 : Int) ∧ (0 : Int) ≤ 1 from by omega)
        · refine k_iff (F := (fun t => (k_pB sh σ) ((r_isServed_20_2 (σ 124) p) (k_it (b_isServed_20_2 (σ 124) p) n20 (i20 + 1) t)))) h22 ?_
          refine k_iconst (v := 1) dX8_isServed_52 rfl ?_
          refine k_goto (tgt := 57) dX8_isServed_53 rfl ?_
          refine k_istore_n (ls' := [(0, .ref 123), (1, .int (iI (p))), (2, .int (iI (1))), (3, .int (iI ((i20 : Int))))]) dX8_isServed_57 rfl (by decide) rfl rfl ?_
          refine k_iinc (ls' := [(0, .ref 123), (1, .int (iI (p))), (2, .int (iI (1))), (3, .int (iI ((i20 : Int) + 1)))]) dX8_isServed_58 3 rfl (by decide) rfl rfl ?_
          refine k_goto (tgt := 20) dX8_isServed_61 rfl ?_
          exact ih20 (1) (show 0 ≤ (1 : Int) ∧ (1 : Int) ≤ 1 from by omega)
abbrev R_more (v : Int) : Prop := 0 ≤ v ∧ v < 65536
def r_more_6 (r : Nat → Int) (p : Int) (s : Int) (ways : Int) (nr : Int) (x6 : Int) : Int := x6
def r_more_16 (r : Nat → Int) (p : Int) (s : Int) (ways : Int) (nr : Int) (i6 : Nat) (x6 : Int) (x16 : Int) : Int := x16
def b_more_16 (r : Nat → Int) (p : Int) (s : Int) (ways : Int) (nr : Int) (i6 : Nat) (x6 : Int) (i16 : Nat) (x16 : Int) : (Int) ⊕ (Int) := if (z_and (z_shr (ways) ((i6 : Int))) (1)) = 1 then if nr = 0 then if r (17 + 4 * s + (i16 : Int)).toNat = 1 then if (z_and (z_shr ((i6 : Int)) ((i16 : Int))) (1)) = 0 then .inr (z_or (x16) (z_one (z_or ((i6 : Int)) (z_one ((i16 : Int)))))) else .inr (z_or (x16) (0)) else .inr (z_or (x16) (0)) else if m_hasRoom r s (i16 : Int) p = true then if (z_and (z_shr ((i6 : Int)) ((i16 : Int))) (1)) = 0 then .inr (z_or (x16) (z_one (z_or ((i6 : Int)) (z_one ((i16 : Int)))))) else .inr (z_or (x16) (0)) else .inr (z_or (x16) (0)) else .inl (x16)
def b_more_6 (r : Nat → Int) (p : Int) (s : Int) (ways : Int) (nr : Int) (i6 : Nat) (x6 : Int) : Int := k_els (r_more_16 r p s ways nr i6 x6) (k_for (b_more_16 r p s ways nr i6 x6) ((r 1).toNat) 0 (x6))
def m_more (r : Nat → Int) (p : Int) (s : Int) (ways : Int) (nr : Int) : Int := (r_more_6 r p s ways nr) (k_it (b_more_6 r p s ways nr) (16) 0 (0))
set_option maxRecDepth 100000 in
set_option maxHeartbeats 4000000 in
theorem c8_more (hsh : k_Main sh) (hM : k_Mo (σ 124)) {p s ways nr : Int} (h_p : 0 ≤ p ∧ p < 12) (h_s : 0 ≤ s ∧ s < 7) (h_ways : 0 ≤ ways ∧ ways < 65536) (h_nr : 0 ≤ nr ∧ nr ≤ 1) : k_C E mX8_more 4 [.ref 123, .int (iI (p)), .int (iI (s)), .int (iI (ways)), .int (iI (nr))] sh σ 0 0 ((k_pV sh σ R_more) (m_more (σ 124) p s ways nr)) := by
  refine k_C_of (ls0 := [(0, .ref 123), (1, .int (iI (p))), (2, .int (iI (s))), (3, .int (iI (ways))), (4, .int (iI (nr)))]) rfl pnX8 (fun v hv => k_cat1 rfl hv) (Nat.le_of_ble_eq_true rfl) rfl ?_
  obtain ⟨⟨t0, t0b⟩, ⟨t1, t1b⟩, ⟨t2, t2b⟩, ⟨t3, t3b⟩, -⟩ := id hM
  unfold m_more
  refine k_iconst (v := 0) dX8_more_0 rfl ?_
  refine k_istore (ls' := [(0, .ref 123), (1, .int (iI (p))), (2, .int (iI (s))), (3, .int (iI (ways))), (4, .int (iI (nr))), (5, .int (iI (0)))]) dX8_more_1 (by decide) rfl rfl ?_
  refine k_iconst (v := 0) dX8_more_3 rfl ?_
  refine k_istore (ls' := [(0, .ref 123), (1, .int (iI (p))), (2, .int (iI (s))), (3, .int (iI (ways))), (4, .int (iI (nr))), (5, .int (iI (0))), (6, .int (iI (0)))]) dX8_more_4 (by decide) rfl rfl ?_
  refine k_loop (α := Int) (P := fun (i6 : Nat) (x6 : Int) Q => k_V E mX8_more _ 6 [(0, .ref 123), (1, .int (iI (p))), (2, .int (iI (s))), (3, .int (iI (ways))), (4, .int (iI (nr))), (5, .int (iI (x6))), (6, .int (iI ((i6 : Int))))] [] sh σ _ _ Q) (J := fun (i6 : Nat) (x6 : Int) => 0 ≤ x6 ∧ x6 < 65536) (16) (b_more_6 (σ 124) p s ways nr) (0) (F := fun t => (k_pV sh σ R_more) ((r_more_6 (σ 124) p s ways nr) t)) (show 0 ≤ (0 : Int) ∧ (0 : Int) < 65536 from by omega) ?_ ?_
  · intro x6 hJ6
    have hJ6 : 0 ≤ x6 ∧ x6 < 65536 := hJ6
    have hU6 := hJ6
    show k_V E mX8_more _ 6 [(0, .ref 123), (1, .int (iI (p))), (2, .int (iI (s))), (3, .int (iI (ways))), (4, .int (iI (nr))), (5, .int (iI (x6))), (6, .int (iI (((16 : Nat) : Int))))] [] sh σ _ _ ((k_pV sh σ R_more) ((r_more_6 (σ 124) p s ways nr) x6))
    unfold r_more_6
    refine k_iload dX8_more_6 6 rfl ?_
    refine k_bipush (v := 16) dX8_more_8 (by decide) ?_
    refine k_icmp_ge (tgt := 107) dX8_more_10 rfl ⟨by omega, by omega⟩ ⟨by decide, by decide⟩ (fun h2 => ?_) (fun h2 => absurd h2 (by omega))
    refine k_iload dX8_more_107 5 rfl ?_
    exact k_retiP dX8_more_109 rfl rfl rfl (show 0 ≤ x6 ∧ x6 < 65536 from by omega)
  · intro n6 i6 x6 hi6 hJ6 ih6
    have hJ6 : 0 ≤ x6 ∧ x6 < 65536 := hJ6
    have hU6 := hJ6
    show k_V E mX8_more _ 6 [(0, .ref 123), (1, .int (iI (p))), (2, .int (iI (s))), (3, .int (iI (ways))), (4, .int (iI (nr))), (5, .int (iI (x6))), (6, .int (iI ((i6 : Int))))] [] sh σ _ _ ((fun t => (k_pV sh σ R_more) ((r_more_6 (σ 124) p s ways nr) (k_it (b_more_6 (σ 124) p s ways nr) n6 (i6 + 1) t))) ((b_more_6 (σ 124) p s ways nr) i6 x6))
    unfold b_more_6
    refine k_iload dX8_more_6 6 rfl ?_
    refine k_bipush (v := 16) dX8_more_8 (by decide) ?_
    refine k_icmp_ge (tgt := 107) dX8_more_10 rfl ⟨by omega, by omega⟩ ⟨by decide, by decide⟩ (fun h3 => absurd h3 (by omega)) (fun h3 => ?_)
    refine k_iconst (v := 0) dX8_more_13 rfl ?_
    refine k_istore (ls' := [(0, .ref 123), (1, .int (iI (p))), (2, .int (iI (s))), (3, .int (iI (ways))), (4, .int (iI (nr))), (5, .int (iI (x6))), (6, .int (iI ((i6 : Int)))), (7, .int (iI (0)))]) dX8_more_14 (by decide) rfl rfl ?_
    refine k_loopR (α := Int) (P := fun (i16 : Nat) (x16 : Int) Q => k_V E mX8_more _ 16 [(0, .ref 123), (1, .int (iI (p))), (2, .int (iI (s))), (3, .int (iI (ways))), (4, .int (iI (nr))), (5, .int (iI (x16))), (6, .int (iI ((i6 : Int)))), (7, .int (iI ((i16 : Int))))] [] sh σ _ _ Q) (J := fun (i16 : Nat) (x16 : Int) => 0 ≤ x16 ∧ x16 < 65536) (((σ 124) 1).toNat) (b_more_16 (σ 124) p s ways nr i6 x6) (x6) (F := fun t => (fun t => (k_pV sh σ R_more) ((r_more_6 (σ 124) p s ways nr) (k_it (b_more_6 (σ 124) p s ways nr) n6 (i6 + 1) t))) (k_els (r_more_16 (σ 124) p s ways nr i6 x6) t)) (show 0 ≤ x6 ∧ x6 < 65536 from by omega) ?_ ?_
    · intro x16 hJ16
      have hJ16 : 0 ≤ x16 ∧ x16 < 65536 := hJ16
      have hU16 := hJ16
      show k_V E mX8_more _ 16 [(0, .ref 123), (1, .int (iI (p))), (2, .int (iI (s))), (3, .int (iI (ways))), (4, .int (iI (nr))), (5, .int (iI (x16))), (6, .int (iI ((i6 : Int)))), (7, .int (iI (((((σ 124) 1).toNat : Nat) : Int))))] [] sh σ _ _ ((fun t => (k_pV sh σ R_more) ((r_more_6 (σ 124) p s ways nr) (k_it (b_more_6 (σ 124) p s ways nr) n6 (i6 + 1) t))) ((r_more_16 (σ 124) p s ways nr i6 x6) x16))
      unfold r_more_16
      refine k_iload dX8_more_16 7 rfl ?_
      refine k_aload_n dX8_more_18 0 rfl rfl (by decide) ?_
      refine k_get (kf := 0) (v := .ref 124) dX8_more_19 kcX8 w_1747 (by decide) (by decide) (s_123 hsh) rfl rfl ?_
      refine k_iconst (v := 1) dX8_more_22 rfl ?_
      refine k_iald dX8_more_23 (by decide) (s_124 hsh) (by omega) (by omega) (by decide) ?_
      refine k_eqst (st' := [.int (iI ((σ 124) 1)), .int (iI (((((σ 124) 1).toNat : Nat) : Int)))]) rfl ?_
      refine k_icmp_ge (tgt := 101) dX8_more_24 rfl ⟨by omega, by omega⟩ ⟨by omega, by omega⟩ (fun h5 => ?_) (fun h5 => absurd h5 (by omega))
      refine k_iinc (ls' := [(0, .ref 123), (1, .int (iI (p))), (2, .int (iI (s))), (3, .int (iI (ways))), (4, .int (iI (nr))), (5, .int (iI (x16))), (6, .int (iI ((i6 : Int) + 1))), (7, .int (iI (((((σ 124) 1).toNat : Nat) : Int))))]) dX8_more_101 6 rfl (by decide) rfl rfl ?_
      refine k_goto (tgt := 6) dX8_more_104 rfl ?_
      refine k_dropr (ls' := [(0, .ref 123), (1, .int (iI (p))), (2, .int (iI (s))), (3, .int (iI (ways))), (4, .int (iI (nr))), (5, .int (iI (x16))), (6, .int (iI ((i6 : Int) + 1)))]) (ex := [(7, .int (iI (((((σ 124) 1).toNat : Nat) : Int))))]) rfl ?_
      exact ih6 (x16) (show 0 ≤ x16 ∧ x16 < 65536 from by omega)
    · intro n16 i16 x16 hi16 hJ16 ih16
      have hJ16 : 0 ≤ x16 ∧ x16 < 65536 := hJ16
      have hU16 := hJ16
      show k_V E mX8_more _ 16 [(0, .ref 123), (1, .int (iI (p))), (2, .int (iI (s))), (3, .int (iI (ways))), (4, .int (iI (nr))), (5, .int (iI (x16))), (6, .int (iI ((i6 : Int)))), (7, .int (iI ((i16 : Int))))] [] sh σ _ _ ((fun t => (fun t => (k_pV sh σ R_more) ((r_more_6 (σ 124) p s ways nr) (k_it (b_more_6 (σ 124) p s ways nr) n6 (i6 + 1) t))) (k_els (r_more_16 (σ 124) p s ways nr i6 x6) (k_cn2 (k_for (b_more_16 (σ 124) p s ways nr i6 x6) n16 (i16 + 1)) t))) ((b_more_16 (σ 124) p s ways nr i6 x6) i16 x16))
      unfold b_more_16
      refine k_iload dX8_more_16 7 rfl ?_
      refine k_aload_n dX8_more_18 0 rfl rfl (by decide) ?_
      refine k_get (kf := 0) (v := .ref 124) dX8_more_19 kcX8 w_1747 (by decide) (by decide) (s_123 hsh) rfl rfl ?_
      refine k_iconst (v := 1) dX8_more_22 rfl ?_
      refine k_iald dX8_more_23 (by decide) (s_124 hsh) (by omega) (by omega) (by decide) ?_
      refine k_eqst (st' := [.int (iI ((σ 124) 1)), .int (iI ((i16 : Int)))]) rfl ?_
      refine k_icmp_ge (tgt := 101) dX8_more_24 rfl ⟨by omega, by omega⟩ ⟨by omega, by omega⟩ (fun h6 => absurd h6 (by omega)) (fun h6 => ?_)
      refine k_iload_n dX8_more_27 3 rfl rfl ?_
      refine k_iload dX8_more_28 6 rfl ?_
      refine k_ishr (v := (iI (z_shr (ways) ((i6 : Int))))) dX8_more_30 (zz_shrI (by omega) (by omega) (by omega) (by omega)) ?_
      have q7 := z_shr_nn (ways) ((i6 : Int))
      have q8 := z_shr_le (ways) ((i6 : Int)) (by omega)
      refine k_iconst (v := 1) dX8_more_31 rfl ?_
      refine k_iand (v := (iI (z_and (z_shr (ways) ((i6 : Int))) (1)))) dX8_more_32 (z_andI (z_shr_nn _ _) (by omega)) ?_
      have q9 := z_and_nn (z_shr (ways) ((i6 : Int))) (1)
      have q10 := z_and_le (z_shr (ways) ((i6 : Int))) (1) (z_shr_nn _ _)
      have q11 := z_and_le2 (z_shr (ways) ((i6 : Int))) (1) (by decide)
      refine k_iconst (v := 1) dX8_more_33 rfl ?_
      refine k_icmp_ne (tgt := 101) dX8_more_34 rfl ⟨by omega, by omega⟩ ⟨by decide, by decide⟩ (fun h12 => ?_) (fun h12 => ?_)
      · refine k_iff (F := (fun t => (fun t => (k_pV sh σ R_more) ((r_more_6 (σ 124) p s ways nr) (k_it (b_more_6 (σ 124) p s ways nr) n6 (i6 + 1) t))) (k_els (r_more_16 (σ 124) p s ways nr i6 x6) (k_cn2 (k_for (b_more_16 (σ 124) p s ways nr i6 x6) n16 (i16 + 1)) t)))) h12 ?_
        refine k_iinc (ls' := [(0, .ref 123), (1, .int (iI (p))), (2, .int (iI (s))), (3, .int (iI (ways))), (4, .int (iI (nr))), (5, .int (iI (x16))), (6, .int (iI ((i6 : Int) + 1))), (7, .int (iI ((i16 : Int))))]) dX8_more_101 6 rfl (by decide) rfl rfl ?_
        refine k_goto (tgt := 6) dX8_more_104 rfl ?_
        refine k_dropr (ls' := [(0, .ref 123), (1, .int (iI (p))), (2, .int (iI (s))), (3, .int (iI (ways))), (4, .int (iI (nr))), (5, .int (iI (x16))), (6, .int (iI ((i6 : Int) + 1)))]) (ex := [(7, .int (iI ((i16 : Int))))]) rfl ?_
        exact ih6 (x16) (show 0 ≤ x16 ∧ x16 < 65536 from by omega)
      · refine k_ift (F := (fun t => (fun t => (k_pV sh σ R_more) ((r_more_6 (σ 124) p s ways nr) (k_it (b_more_6 (σ 124) p s ways nr) n6 (i6 + 1) t))) (k_els (r_more_16 (σ 124) p s ways nr i6 x6) (k_cn2 (k_for (b_more_16 (σ 124) p s ways nr i6 x6) n16 (i16 + 1)) t)))) h12 ?_
        refine k_iload dX8_more_37 4 rfl ?_
        refine k_if_eq (tgt := 53) dX8_more_39 rfl ⟨by omega, by omega⟩ (fun h13 => ?_) (fun h13 => ?_)
        · refine k_ift (F := (fun t => (fun t => (k_pV sh σ R_more) ((r_more_6 (σ 124) p s ways nr) (k_it (b_more_6 (σ 124) p s ways nr) n6 (i6 + 1) t))) (k_els (r_more_16 (σ 124) p s ways nr i6 x6) (k_cn2 (k_for (b_more_16 (σ 124) p s ways nr i6 x6) n16 (i16 + 1)) t)))) h13 ?_
          refine k_aload_n dX8_more_53 0 rfl rfl (by decide) ?_
          refine k_iload_n dX8_more_54 2 rfl rfl ?_
          refine k_iload dX8_more_55 7 rfl ?_
          refine k_callVr (st := []) (as := [.int (iI (s)), .int (iI ((i16 : Int)))]) dX8_more_57 oX8_hasOpen w_1928 w_1930 w_42 rfl (by omega) rfl (Nat.le_of_ble_eq_true rfl) (by decide) (s_123 hsh) rfl (c8_hasOpen (σ := σ) hsh hM (by omega) (by omega)) ?_
          refine k_istore (ls' := [(0, .ref 123), (1, .int (iI (p))), (2, .int (iI (s))), (3, .int (iI (ways))), (4, .int (iI (nr))), (5, .int (iI (x16))), (6, .int (iI ((i6 : Int)))), (7, .int (iI ((i16 : Int)))), (8, .int (iI (zb ((σ 124) (17 + 4 * s + (i16 : Int)).toNat = 1))))]) dX8_more_60 (by decide) rfl rfl ?_
          refine k_iload dX8_more_62 5 rfl ?_
          refine k_iload dX8_more_64 8 rfl ?_
          refine k_if_eq (tgt := 91) dX8_more_66 rfl (zb_kr _) (fun h15 => ?_) (fun h15 => ?_)
          · have h15 := zb_0.mp h15
            refine k_iff (F := (fun t => (fun t => (k_pV sh σ R_more) ((r_more_6 (σ 124) p s ways nr) (k_it (b_more_6 (σ 124) p s ways nr) n6 (i6 + 1) t))) (k_els (r_more_16 (σ 124) p s ways nr i6 x6) (k_cn2 (k_for (b_more_16 (σ 124) p s ways nr i6 x6) n16 (i16 + 1)) t)))) h15 ?_
            refine k_iconst (v := 0) dX8_more_91 rfl ?_
            refine k_ior (v := (iI (z_or (x16) (0)))) dX8_more_92 (z_orI (by omega) (by omega)) ?_
            have q16 := z_or_nn (x16) (0)
            refine k_istore (ls' := [(0, .ref 123), (1, .int (iI (p))), (2, .int (iI (s))), (3, .int (iI (ways))), (4, .int (iI (nr))), (5, .int (iI (z_or (x16) (0)))), (6, .int (iI ((i6 : Int)))), (7, .int (iI ((i16 : Int)))), (8, .int (iI (zb ((σ 124) (17 + 4 * s + (i16 : Int)).toNat = 1))))]) dX8_more_93 (by decide) rfl rfl ?_
            refine k_iinc (ls' := [(0, .ref 123), (1, .int (iI (p))), (2, .int (iI (s))), (3, .int (iI (ways))), (4, .int (iI (nr))), (5, .int (iI (z_or (x16) (0)))), (6, .int (iI ((i6 : Int)))), (7, .int (iI ((i16 : Int) + 1))), (8, .int (iI (zb ((σ 124) (17 + 4 * s + (i16 : Int)).toNat = 1))))]) dX8_more_95 7 rfl (by decide) rfl rfl ?_
            refine k_goto (tgt := 16) dX8_more_98 rfl ?_
            refine k_dropr (ls' := [(0, .ref 123), (1, .int (iI (p))), (2, .int (iI (s))), (3, .int (iI (ways))), (4, .int (iI (nr))), (5, .int (iI (z_or (x16) (0)))), (6, .int (iI ((i6 : Int)))), (7, .int (iI ((i16 : Int) + 1)))]) (ex := [(8, .int (iI (zb ((σ 124) (17 + 4 * s + (i16 : Int)).toNat = 1))))]) rfl ?_
            have y17 : z_or (x16) (0) < 65536 := z_or_lt 16 (show x16 < 65536 by omega) ((show (0 : Int) < 65536 by decide))
            exact ih16 (z_or (x16) (0)) (show 0 ≤ z_or (x16) (0) ∧ z_or (x16) (0) < 65536 from by omega)
          · have h15 := zb_n0.mp h15
            refine k_ift (F := (fun t => (fun t => (k_pV sh σ R_more) ((r_more_6 (σ 124) p s ways nr) (k_it (b_more_6 (σ 124) p s ways nr) n6 (i6 + 1) t))) (k_els (r_more_16 (σ 124) p s ways nr i6 x6) (k_cn2 (k_for (b_more_16 (σ 124) p s ways nr i6 x6) n16 (i16 + 1)) t)))) h15 ?_
            refine k_iload dX8_more_69 6 rfl ?_
            refine k_iload dX8_more_71 7 rfl ?_
            refine k_ishr (v := (iI (z_shr ((i6 : Int)) ((i16 : Int))))) dX8_more_73 (zz_shrI (by omega) (by omega) (by omega) (by omega)) ?_
            have q18 := z_shr_nn ((i6 : Int)) ((i16 : Int))
            have q19 := z_shr_le ((i6 : Int)) ((i16 : Int)) (by omega)
            refine k_iconst (v := 1) dX8_more_74 rfl ?_
            refine k_iand (v := (iI (z_and (z_shr ((i6 : Int)) ((i16 : Int))) (1)))) dX8_more_75 (z_andI (z_shr_nn _ _) (by omega)) ?_
            have q20 := z_and_nn (z_shr ((i6 : Int)) ((i16 : Int))) (1)
            have q21 := z_and_le (z_shr ((i6 : Int)) ((i16 : Int))) (1) (z_shr_nn _ _)
            have q22 := z_and_le2 (z_shr ((i6 : Int)) ((i16 : Int))) (1) (by decide)
            refine k_if_ne (tgt := 91) dX8_more_76 rfl ⟨by omega, by omega⟩ (fun h23 => ?_) (fun h23 => ?_)
            · refine k_iff (F := (fun t => (fun t => (k_pV sh σ R_more) ((r_more_6 (σ 124) p s ways nr) (k_it (b_more_6 (σ 124) p s ways nr) n6 (i6 + 1) t))) (k_els (r_more_16 (σ 124) p s ways nr i6 x6) (k_cn2 (k_for (b_more_16 (σ 124) p s ways nr i6 x6) n16 (i16 + 1)) t)))) h23 ?_
              refine k_iconst (v := 0) dX8_more_91 rfl ?_
              refine k_ior (v := (iI (z_or (x16) (0)))) dX8_more_92 (z_orI (by omega) (by omega)) ?_
              have q24 := z_or_nn (x16) (0)
              refine k_istore (ls' := [(0, .ref 123), (1, .int (iI (p))), (2, .int (iI (s))), (3, .int (iI (ways))), (4, .int (iI (nr))), (5, .int (iI (z_or (x16) (0)))), (6, .int (iI ((i6 : Int)))), (7, .int (iI ((i16 : Int)))), (8, .int (iI (zb ((σ 124) (17 + 4 * s + (i16 : Int)).toNat = 1))))]) dX8_more_93 (by decide) rfl rfl ?_
              refine k_iinc (ls' := [(0, .ref 123), (1, .int (iI (p))), (2, .int (iI (s))), (3, .int (iI (ways))), (4, .int (iI (nr))), (5, .int (iI (z_or (x16) (0)))), (6, .int (iI ((i6 : Int)))), (7, .int (iI ((i16 : Int) + 1))), (8, .int (iI (zb ((σ 124) (17 + 4 * s + (i16 : Int)).toNat = 1))))]) dX8_more_95 7 rfl (by decide) rfl rfl ?_
              refine k_goto (tgt := 16) dX8_more_98 rfl ?_
              refine k_dropr (ls' := [(0, .ref 123), (1, .int (iI (p))), (2, .int (iI (s))), (3, .int (iI (ways))), (4, .int (iI (nr))), (5, .int (iI (z_or (x16) (0)))), (6, .int (iI ((i6 : Int)))), (7, .int (iI ((i16 : Int) + 1)))]) (ex := [(8, .int (iI (zb ((σ 124) (17 + 4 * s + (i16 : Int)).toNat = 1))))]) rfl ?_
              have y25 : z_or (x16) (0) < 65536 := z_or_lt 16 (show x16 < 65536 by omega) ((show (0 : Int) < 65536 by decide))
              exact ih16 (z_or (x16) (0)) (show 0 ≤ z_or (x16) (0) ∧ z_or (x16) (0) < 65536 from by omega)
            · refine k_ift (F := (fun t => (fun t => (k_pV sh σ R_more) ((r_more_6 (σ 124) p s ways nr) (k_it (b_more_6 (σ 124) p s ways nr) n6 (i6 + 1) t))) (k_els (r_more_16 (σ 124) p s ways nr i6 x6) (k_cn2 (k_for (b_more_16 (σ 124) p s ways nr i6 x6) n16 (i16 + 1)) t)))) h23 ?_
              refine k_iconst (v := 1) dX8_more_79 rfl ?_
              refine k_iload dX8_more_80 6 rfl ?_
              refine k_iconst (v := 1) dX8_more_82 rfl ?_
              refine k_iload dX8_more_83 7 rfl ?_
              refine k_ishl (v := (iI (z_one ((i16 : Int))))) dX8_more_85 (z_oneI (by omega) (by omega)) ?_
              have q26 := z_one_pos ((i16 : Int))
              have q27 : z_one ((i16 : Int)) < 2147483648 := z_one_lt 31 (show ((i16 : Int)) < 31 by omega) (by omega)
              refine k_ior (v := (iI (z_or ((i6 : Int)) (z_one ((i16 : Int)))))) dX8_more_86 (z_orI (by omega) (Int.le_of_lt (z_one_pos _))) ?_
              have q28 := z_or_nn ((i6 : Int)) (z_one ((i16 : Int)))
              refine k_ishl (v := (iI (z_one (z_or ((i6 : Int)) (z_one ((i16 : Int))))))) dX8_more_87 (z_oneI (z_or_nn _ _) (show z_or (i6 : Int) (z_one (i16 : Int)) < 31 from Int.lt_of_lt_of_le (z_or_lt 4 (show (i6 : Int) < 16 by omega) (z_one_lt 4 (show (i16 : Int) < 4 by omega) (by omega))) (by decide))) ?_
              refine k_goto (tgt := 92) dX8_more_88 rfl ?_
              refine k_ior (v := (iI (z_or (x16) (z_one (z_or ((i6 : Int)) (z_one ((i16 : Int)))))))) dX8_more_92 (z_orI (by omega) (Int.le_of_lt (z_one_pos _))) ?_
              have q29 := z_or_nn (x16) (z_one (z_or ((i6 : Int)) (z_one ((i16 : Int)))))
              refine k_istore (ls' := [(0, .ref 123), (1, .int (iI (p))), (2, .int (iI (s))), (3, .int (iI (ways))), (4, .int (iI (nr))), (5, .int (iI (z_or (x16) (z_one (z_or ((i6 : Int)) (z_one ((i16 : Int)))))))), (6, .int (iI ((i6 : Int)))), (7, .int (iI ((i16 : Int)))), (8, .int (iI (zb ((σ 124) (17 + 4 * s + (i16 : Int)).toNat = 1))))]) dX8_more_93 (by decide) rfl rfl ?_
              refine k_iinc (ls' := [(0, .ref 123), (1, .int (iI (p))), (2, .int (iI (s))), (3, .int (iI (ways))), (4, .int (iI (nr))), (5, .int (iI (z_or (x16) (z_one (z_or ((i6 : Int)) (z_one ((i16 : Int)))))))), (6, .int (iI ((i6 : Int)))), (7, .int (iI ((i16 : Int) + 1))), (8, .int (iI (zb ((σ 124) (17 + 4 * s + (i16 : Int)).toNat = 1))))]) dX8_more_95 7 rfl (by decide) rfl rfl ?_
              refine k_goto (tgt := 16) dX8_more_98 rfl ?_
              refine k_dropr (ls' := [(0, .ref 123), (1, .int (iI (p))), (2, .int (iI (s))), (3, .int (iI (ways))), (4, .int (iI (nr))), (5, .int (iI (z_or (x16) (z_one (z_or ((i6 : Int)) (z_one ((i16 : Int)))))))), (6, .int (iI ((i6 : Int)))), (7, .int (iI ((i16 : Int) + 1)))]) (ex := [(8, .int (iI (zb ((σ 124) (17 + 4 * s + (i16 : Int)).toNat = 1))))]) rfl ?_
              have y30 : z_or (x16) (z_one (z_or ((i6 : Int)) (z_one ((i16 : Int))))) < 65536 := z_or_lt 16 (show x16 < 65536 by omega) (z_one_lt 16 (z_or_lt 4 (show (i6 : Int) < 16 by omega) (z_one_lt 4 (show (i16 : Int) < 4 by omega) (by omega))) (z_or_nn _ _))
              exact ih16 (z_or (x16) (z_one (z_or ((i6 : Int)) (z_one ((i16 : Int)))))) (show 0 ≤ z_or (x16) (z_one (z_or ((i6 : Int)) (z_one ((i16 : Int))))) ∧ z_or (x16) (z_one (z_or ((i6 : Int)) (z_one ((i16 : Int))))) < 65536 from by omega)
        · refine k_iff (F := (fun t => (fun t => (k_pV sh σ R_more) ((r_more_6 (σ 124) p s ways nr) (k_it (b_more_6 (σ 124) p s ways nr) n6 (i6 + 1) t))) (k_els (r_more_16 (σ 124) p s ways nr i6 x6) (k_cn2 (k_for (b_more_16 (σ 124) p s ways nr i6 x6) n16 (i16 + 1)) t)))) h13 ?_
          refine k_aload_n dX8_more_42 0 rfl rfl (by decide) ?_
          refine k_iload_n dX8_more_43 2 rfl rfl ?_
          refine k_iload dX8_more_44 7 rfl ?_
          refine k_iload_n dX8_more_46 1 rfl rfl ?_
          refine k_callVrP (st := []) (as := [.int (iI (s)), .int (iI ((i16 : Int))), .int (iI (p))]) dX8_more_47 oX8_hasRoom w_2056 w_2058 w_58 rfl (by omega) rfl (Nat.le_of_ble_eq_true rfl) (by decide) (s_123 hsh) rfl (c8_hasRoom hsh hM (by omega) (by omega) (by omega)) (fun z31 => ?_)
          refine k_goto (tgt := 60) dX8_more_50 rfl ?_
          refine k_istore (ls' := [(0, .ref 123), (1, .int (iI (p))), (2, .int (iI (s))), (3, .int (iI (ways))), (4, .int (iI (nr))), (5, .int (iI (x16))), (6, .int (iI ((i6 : Int)))), (7, .int (iI ((i16 : Int)))), (8, .int (iI (zb (m_hasRoom (σ 124) s (i16 : Int) p = true))))]) dX8_more_60 (by decide) rfl rfl ?_
          refine k_iload dX8_more_62 5 rfl ?_
          refine k_iload dX8_more_64 8 rfl ?_
          refine k_if_eq (tgt := 91) dX8_more_66 rfl (zb_kr _) (fun h32 => ?_) (fun h32 => ?_)
          · have h32 := zb_0.mp h32
            refine k_iff (F := (fun t => (fun t => (k_pV sh σ R_more) ((r_more_6 (σ 124) p s ways nr) (k_it (b_more_6 (σ 124) p s ways nr) n6 (i6 + 1) t))) (k_els (r_more_16 (σ 124) p s ways nr i6 x6) (k_cn2 (k_for (b_more_16 (σ 124) p s ways nr i6 x6) n16 (i16 + 1)) t)))) h32 ?_
            refine k_iconst (v := 0) dX8_more_91 rfl ?_
            refine k_ior (v := (iI (z_or (x16) (0)))) dX8_more_92 (z_orI (by omega) (by omega)) ?_
            have q33 := z_or_nn (x16) (0)
            refine k_istore (ls' := [(0, .ref 123), (1, .int (iI (p))), (2, .int (iI (s))), (3, .int (iI (ways))), (4, .int (iI (nr))), (5, .int (iI (z_or (x16) (0)))), (6, .int (iI ((i6 : Int)))), (7, .int (iI ((i16 : Int)))), (8, .int (iI (zb (m_hasRoom (σ 124) s (i16 : Int) p = true))))]) dX8_more_93 (by decide) rfl rfl ?_
            refine k_iinc (ls' := [(0, .ref 123), (1, .int (iI (p))), (2, .int (iI (s))), (3, .int (iI (ways))), (4, .int (iI (nr))), (5, .int (iI (z_or (x16) (0)))), (6, .int (iI ((i6 : Int)))), (7, .int (iI ((i16 : Int) + 1))), (8, .int (iI (zb (m_hasRoom (σ 124) s (i16 : Int) p = true))))]) dX8_more_95 7 rfl (by decide) rfl rfl ?_
            refine k_goto (tgt := 16) dX8_more_98 rfl ?_
            refine k_dropr (ls' := [(0, .ref 123), (1, .int (iI (p))), (2, .int (iI (s))), (3, .int (iI (ways))), (4, .int (iI (nr))), (5, .int (iI (z_or (x16) (0)))), (6, .int (iI ((i6 : Int)))), (7, .int (iI ((i16 : Int) + 1)))]) (ex := [(8, .int (iI (zb (m_hasRoom (σ 124) s (i16 : Int) p = true))))]) rfl ?_
            have y34 : z_or (x16) (0) < 65536 := z_or_lt 16 (show x16 < 65536 by omega) ((show (0 : Int) < 65536 by decide))
            exact ih16 (z_or (x16) (0)) (show 0 ≤ z_or (x16) (0) ∧ z_or (x16) (0) < 65536 from by omega)
          · have h32 := zb_n0.mp h32
            refine k_ift (F := (fun t => (fun t => (k_pV sh σ R_more) ((r_more_6 (σ 124) p s ways nr) (k_it (b_more_6 (σ 124) p s ways nr) n6 (i6 + 1) t))) (k_els (r_more_16 (σ 124) p s ways nr i6 x6) (k_cn2 (k_for (b_more_16 (σ 124) p s ways nr i6 x6) n16 (i16 + 1)) t)))) h32 ?_
            refine k_iload dX8_more_69 6 rfl ?_
            refine k_iload dX8_more_71 7 rfl ?_
            refine k_ishr (v := (iI (z_shr ((i6 : Int)) ((i16 : Int))))) dX8_more_73 (zz_shrI (by omega) (by omega) (by omega) (by omega)) ?_
            have q35 := z_shr_nn ((i6 : Int)) ((i16 : Int))
            have q36 := z_shr_le ((i6 : Int)) ((i16 : Int)) (by omega)
            refine k_iconst (v := 1) dX8_more_74 rfl ?_
            refine k_iand (v := (iI (z_and (z_shr ((i6 : Int)) ((i16 : Int))) (1)))) dX8_more_75 (z_andI (z_shr_nn _ _) (by omega)) ?_
            have q37 := z_and_nn (z_shr ((i6 : Int)) ((i16 : Int))) (1)
            have q38 := z_and_le (z_shr ((i6 : Int)) ((i16 : Int))) (1) (z_shr_nn _ _)
            have q39 := z_and_le2 (z_shr ((i6 : Int)) ((i16 : Int))) (1) (by decide)
            refine k_if_ne (tgt := 91) dX8_more_76 rfl ⟨by omega, by omega⟩ (fun h40 => ?_) (fun h40 => ?_)
            · refine k_iff (F := (fun t => (fun t => (k_pV sh σ R_more) ((r_more_6 (σ 124) p s ways nr) (k_it (b_more_6 (σ 124) p s ways nr) n6 (i6 + 1) t))) (k_els (r_more_16 (σ 124) p s ways nr i6 x6) (k_cn2 (k_for (b_more_16 (σ 124) p s ways nr i6 x6) n16 (i16 + 1)) t)))) h40 ?_
              refine k_iconst (v := 0) dX8_more_91 rfl ?_
              refine k_ior (v := (iI (z_or (x16) (0)))) dX8_more_92 (z_orI (by omega) (by omega)) ?_
              have q41 := z_or_nn (x16) (0)
              refine k_istore (ls' := [(0, .ref 123), (1, .int (iI (p))), (2, .int (iI (s))), (3, .int (iI (ways))), (4, .int (iI (nr))), (5, .int (iI (z_or (x16) (0)))), (6, .int (iI ((i6 : Int)))), (7, .int (iI ((i16 : Int)))), (8, .int (iI (zb (m_hasRoom (σ 124) s (i16 : Int) p = true))))]) dX8_more_93 (by decide) rfl rfl ?_
              refine k_iinc (ls' := [(0, .ref 123), (1, .int (iI (p))), (2, .int (iI (s))), (3, .int (iI (ways))), (4, .int (iI (nr))), (5, .int (iI (z_or (x16) (0)))), (6, .int (iI ((i6 : Int)))), (7, .int (iI ((i16 : Int) + 1))), (8, .int (iI (zb (m_hasRoom (σ 124) s (i16 : Int) p = true))))]) dX8_more_95 7 rfl (by decide) rfl rfl ?_
              refine k_goto (tgt := 16) dX8_more_98 rfl ?_
              refine k_dropr (ls' := [(0, .ref 123), (1, .int (iI (p))), (2, .int (iI (s))), (3, .int (iI (ways))), (4, .int (iI (nr))), (5, .int (iI (z_or (x16) (0)))), (6, .int (iI ((i6 : Int)))), (7, .int (iI ((i16 : Int) + 1)))]) (ex := [(8, .int (iI (zb (m_hasRoom (σ 124) s (i16 : Int) p = true))))]) rfl ?_
              have y42 : z_or (x16) (0) < 65536 := z_or_lt 16 (show x16 < 65536 by omega) ((show (0 : Int) < 65536 by decide))
              exact ih16 (z_or (x16) (0)) (show 0 ≤ z_or (x16) (0) ∧ z_or (x16) (0) < 65536 from by omega)
            · refine k_ift (F := (fun t => (fun t => (k_pV sh σ R_more) ((r_more_6 (σ 124) p s ways nr) (k_it (b_more_6 (σ 124) p s ways nr) n6 (i6 + 1) t))) (k_els (r_more_16 (σ 124) p s ways nr i6 x6) (k_cn2 (k_for (b_more_16 (σ 124) p s ways nr i6 x6) n16 (i16 + 1)) t)))) h40 ?_
              refine k_iconst (v := 1) dX8_more_79 rfl ?_
              refine k_iload dX8_more_80 6 rfl ?_
              refine k_iconst (v := 1) dX8_more_82 rfl ?_
              refine k_iload dX8_more_83 7 rfl ?_
              refine k_ishl (v := (iI (z_one ((i16 : Int))))) dX8_more_85 (z_oneI (by omega) (by omega)) ?_
              have q43 := z_one_pos ((i16 : Int))
              have q44 : z_one ((i16 : Int)) < 2147483648 := z_one_lt 31 (show ((i16 : Int)) < 31 by omega) (by omega)
              refine k_ior (v := (iI (z_or ((i6 : Int)) (z_one ((i16 : Int)))))) dX8_more_86 (z_orI (by omega) (Int.le_of_lt (z_one_pos _))) ?_
              have q45 := z_or_nn ((i6 : Int)) (z_one ((i16 : Int)))
              refine k_ishl (v := (iI (z_one (z_or ((i6 : Int)) (z_one ((i16 : Int))))))) dX8_more_87 (z_oneI (z_or_nn _ _) (show z_or (i6 : Int) (z_one (i16 : Int)) < 31 from Int.lt_of_lt_of_le (z_or_lt 4 (show (i6 : Int) < 16 by omega) (z_one_lt 4 (show (i16 : Int) < 4 by omega) (by omega))) (by decide))) ?_
              refine k_goto (tgt := 92) dX8_more_88 rfl ?_
              refine k_ior (v := (iI (z_or (x16) (z_one (z_or ((i6 : Int)) (z_one ((i16 : Int)))))))) dX8_more_92 (z_orI (by omega) (Int.le_of_lt (z_one_pos _))) ?_
              have q46 := z_or_nn (x16) (z_one (z_or ((i6 : Int)) (z_one ((i16 : Int)))))
              refine k_istore (ls' := [(0, .ref 123), (1, .int (iI (p))), (2, .int (iI (s))), (3, .int (iI (ways))), (4, .int (iI (nr))), (5, .int (iI (z_or (x16) (z_one (z_or ((i6 : Int)) (z_one ((i16 : Int)))))))), (6, .int (iI ((i6 : Int)))), (7, .int (iI ((i16 : Int)))), (8, .int (iI (zb (m_hasRoom (σ 124) s (i16 : Int) p = true))))]) dX8_more_93 (by decide) rfl rfl ?_
              refine k_iinc (ls' := [(0, .ref 123), (1, .int (iI (p))), (2, .int (iI (s))), (3, .int (iI (ways))), (4, .int (iI (nr))), (5, .int (iI (z_or (x16) (z_one (z_or ((i6 : Int)) (z_one ((i16 : Int)))))))), (6, .int (iI ((i6 : Int)))), (7, .int (iI ((i16 : Int) + 1))), (8, .int (iI (zb (m_hasRoom (σ 124) s (i16 : Int) p = true))))]) dX8_more_95 7 rfl (by decide) rfl rfl ?_
              refine k_goto (tgt := 16) dX8_more_98 rfl ?_
              refine k_dropr (ls' := [(0, .ref 123), (1, .int (iI (p))), (2, .int (iI (s))), (3, .int (iI (ways))), (4, .int (iI (nr))), (5, .int (iI (z_or (x16) (z_one (z_or ((i6 : Int)) (z_one ((i16 : Int)))))))), (6, .int (iI ((i6 : Int)))), (7, .int (iI ((i16 : Int) + 1)))]) (ex := [(8, .int (iI (zb (m_hasRoom (σ 124) s (i16 : Int) p = true))))]) rfl ?_
              have y47 : z_or (x16) (z_one (z_or ((i6 : Int)) (z_one ((i16 : Int))))) < 65536 := z_or_lt 16 (show x16 < 65536 by omega) (z_one_lt 16 (z_or_lt 4 (show (i6 : Int) < 16 by omega) (z_one_lt 4 (show (i16 : Int) < 4 by omega) (by omega))) (z_or_nn _ _))
              exact ih16 (z_or (x16) (z_one (z_or ((i6 : Int)) (z_one ((i16 : Int)))))) (show 0 ≤ z_or (x16) (z_one (z_or ((i6 : Int)) (z_one ((i16 : Int))))) ∧ z_or (x16) (z_one (z_or ((i6 : Int)) (z_one ((i16 : Int))))) < 65536 from by omega)
def r_canPlace_6 (r : Nat → Int) (p : Int) (set : Int) (nr : Int) (x6 : Int) : Bool := if x6 = 0 then false else true
def b_canPlace_6 (r : Nat → Int) (p : Int) (set : Int) (nr : Int) (i6 : Nat) (x6 : Int) : Int := if (z_and (z_shr (set) ((i6 : Int))) (1)) = 1 then m_more r p (r (57 + 3 * p + (i6 : Int)).toNat) x6 nr else x6
def m_canPlace (r : Nat → Int) (p : Int) (set : Int) (nr : Int) : Bool := (r_canPlace_6 r p set nr) (k_it (b_canPlace_6 r p set nr) ((r (45 + p).toNat).toNat) 0 (1))
set_option maxRecDepth 100000 in
set_option maxHeartbeats 4000000 in
theorem c8_canPlace (hsh : k_Main sh) (hM : k_Mo (σ 124)) {p set nr : Int} (h_p : 0 ≤ p ∧ p < 12) (h_set : 0 ≤ set ∧ set < 65536) (h_nr : 0 ≤ nr ∧ nr ≤ 1) : k_C E mX8_canPlace 5 [.ref 123, .int (iI (p)), .int (iI (set)), .int (iI (nr))] sh σ 0 0 ((k_pB sh σ) (m_canPlace (σ 124) p set nr)) := by
  refine k_C_of (ls0 := [(0, .ref 123), (1, .int (iI (p))), (2, .int (iI (set))), (3, .int (iI (nr)))]) rfl pnX8 (fun v hv => k_cat1 rfl hv) (Nat.le_of_ble_eq_true rfl) rfl ?_
  obtain ⟨⟨t0, t0b⟩, ⟨t1, t1b⟩, ⟨t2, t2b⟩, ⟨t3, t3b⟩, -⟩ := id hM
  unfold m_canPlace
  refine k_iconst (v := 1) dX8_canPlace_0 rfl ?_
  refine k_istore (ls' := [(0, .ref 123), (1, .int (iI (p))), (2, .int (iI (set))), (3, .int (iI (nr))), (4, .int (iI (1)))]) dX8_canPlace_1 (by decide) rfl rfl ?_
  refine k_iconst (v := 0) dX8_canPlace_3 rfl ?_
  refine k_istore (ls' := [(0, .ref 123), (1, .int (iI (p))), (2, .int (iI (set))), (3, .int (iI (nr))), (4, .int (iI (1))), (5, .int (iI (0)))]) dX8_canPlace_4 (by decide) rfl rfl ?_
  refine k_loop (α := Int) (P := fun (i6 : Nat) (x6 : Int) Q => k_V E mX8_canPlace _ 6 [(0, .ref 123), (1, .int (iI (p))), (2, .int (iI (set))), (3, .int (iI (nr))), (4, .int (iI (x6))), (5, .int (iI ((i6 : Int))))] [] sh σ _ _ Q) (J := fun (i6 : Nat) (x6 : Int) => 0 ≤ x6 ∧ x6 < 65536) (((σ 124) (45 + p).toNat).toNat) (b_canPlace_6 (σ 124) p set nr) (1) (F := fun t => (k_pB sh σ) ((r_canPlace_6 (σ 124) p set nr) t)) (show 0 ≤ (1 : Int) ∧ (1 : Int) < 65536 from by omega) ?_ ?_
  · intro x6 hJ6
    have hJ6 : 0 ≤ x6 ∧ x6 < 65536 := hJ6
    have hU6 := hJ6
    show k_V E mX8_canPlace _ 6 [(0, .ref 123), (1, .int (iI (p))), (2, .int (iI (set))), (3, .int (iI (nr))), (4, .int (iI (x6))), (5, .int (iI (((((σ 124) (45 + p).toNat).toNat : Nat) : Int))))] [] sh σ _ _ ((k_pB sh σ) ((r_canPlace_6 (σ 124) p set nr) x6))
    unfold r_canPlace_6
    refine k_iload dX8_canPlace_6 5 rfl ?_
    refine k_aload_n dX8_canPlace_8 0 rfl rfl (by decide) ?_
    refine k_get (kf := 0) (v := .ref 124) dX8_canPlace_9 kcX8 w_1747 (by decide) (by decide) (s_123 hsh) rfl rfl ?_
    refine k_bipush (v := 45) dX8_canPlace_12 (by decide) ?_
    refine k_iload_n dX8_canPlace_14 1 rfl rfl ?_
    refine k_iadd dX8_canPlace_15 ?_
    refine k_iald dX8_canPlace_16 (by decide) (s_124 hsh) (by omega) (by omega) (by decide) ?_
    have q2 := k_Mo_many hM (x := 45 + p) (by omega) (by omega)
    refine k_icmp_ge (tgt := 53) dX8_canPlace_17 rfl ⟨by omega, by omega⟩ ⟨by omega, by omega⟩ (fun h3 => ?_) (fun h3 => absurd h3 (by omega))
    refine k_iload dX8_canPlace_53 4 rfl ?_
    refine k_if_eq (tgt := 62) dX8_canPlace_55 rfl ⟨by omega, by omega⟩ (fun h4 => ?_) (fun h4 => ?_)
    · refine k_ift (F := (k_pB sh σ)) h4 ?_
      refine k_iconst (v := 0) dX8_canPlace_62 rfl ?_
      exact k_retzP dX8_canPlace_63 rfl (Or.inl rfl) rfl k_lfF True.intro
    · refine k_iff (F := (k_pB sh σ)) h4 ?_
      refine k_iconst (v := 1) dX8_canPlace_58 rfl ?_
      refine k_goto (tgt := 63) dX8_canPlace_59 rfl ?_
      exact k_retzP dX8_canPlace_63 rfl (Or.inr rfl) rfl k_lfT True.intro
  · intro n6 i6 x6 hi6 hJ6 ih6
    have hJ6 : 0 ≤ x6 ∧ x6 < 65536 := hJ6
    have hU6 := hJ6
    show k_V E mX8_canPlace _ 6 [(0, .ref 123), (1, .int (iI (p))), (2, .int (iI (set))), (3, .int (iI (nr))), (4, .int (iI (x6))), (5, .int (iI ((i6 : Int))))] [] sh σ _ _ ((fun t => (k_pB sh σ) ((r_canPlace_6 (σ 124) p set nr) (k_it (b_canPlace_6 (σ 124) p set nr) n6 (i6 + 1) t))) ((b_canPlace_6 (σ 124) p set nr) i6 x6))
    unfold b_canPlace_6
    refine k_iload dX8_canPlace_6 5 rfl ?_
    refine k_aload_n dX8_canPlace_8 0 rfl rfl (by decide) ?_
    refine k_get (kf := 0) (v := .ref 124) dX8_canPlace_9 kcX8 w_1747 (by decide) (by decide) (s_123 hsh) rfl rfl ?_
    refine k_bipush (v := 45) dX8_canPlace_12 (by decide) ?_
    refine k_iload_n dX8_canPlace_14 1 rfl rfl ?_
    refine k_iadd dX8_canPlace_15 ?_
    refine k_iald dX8_canPlace_16 (by decide) (s_124 hsh) (by omega) (by omega) (by decide) ?_
    have q5 := k_Mo_many hM (x := 45 + p) (by omega) (by omega)
    refine k_icmp_ge (tgt := 53) dX8_canPlace_17 rfl ⟨by omega, by omega⟩ ⟨by omega, by omega⟩ (fun h6 => absurd h6 (by omega)) (fun h6 => ?_)
    refine k_iload_n dX8_canPlace_20 2 rfl rfl ?_
    refine k_iload dX8_canPlace_21 5 rfl ?_
    refine k_ishr (v := (iI (z_shr (set) ((i6 : Int))))) dX8_canPlace_23 (zz_shrI (by omega) (by omega) (by omega) (by omega)) ?_
    have q7 := z_shr_nn (set) ((i6 : Int))
    have q8 := z_shr_le (set) ((i6 : Int)) (by omega)
    refine k_iconst (v := 1) dX8_canPlace_24 rfl ?_
    refine k_iand (v := (iI (z_and (z_shr (set) ((i6 : Int))) (1)))) dX8_canPlace_25 (z_andI (z_shr_nn _ _) (by omega)) ?_
    have q9 := z_and_nn (z_shr (set) ((i6 : Int))) (1)
    have q10 := z_and_le (z_shr (set) ((i6 : Int))) (1) (z_shr_nn _ _)
    have q11 := z_and_le2 (z_shr (set) ((i6 : Int))) (1) (by decide)
    refine k_iconst (v := 1) dX8_canPlace_26 rfl ?_
    refine k_icmp_ne (tgt := 47) dX8_canPlace_27 rfl ⟨by omega, by omega⟩ ⟨by decide, by decide⟩ (fun h12 => ?_) (fun h12 => ?_)
    · refine k_iff (F := (fun t => (k_pB sh σ) ((r_canPlace_6 (σ 124) p set nr) (k_it (b_canPlace_6 (σ 124) p set nr) n6 (i6 + 1) t)))) h12 ?_
      refine k_iinc (ls' := [(0, .ref 123), (1, .int (iI (p))), (2, .int (iI (set))), (3, .int (iI (nr))), (4, .int (iI (x6))), (5, .int (iI ((i6 : Int) + 1)))]) dX8_canPlace_47 5 rfl (by decide) rfl rfl ?_
      refine k_goto (tgt := 6) dX8_canPlace_50 rfl ?_
      exact ih6 (x6) (show 0 ≤ x6 ∧ x6 < 65536 from by omega)
    · refine k_ift (F := (fun t => (k_pB sh σ) ((r_canPlace_6 (σ 124) p set nr) (k_it (b_canPlace_6 (σ 124) p set nr) n6 (i6 + 1) t)))) h12 ?_
      refine k_aload_n dX8_canPlace_30 0 rfl rfl (by decide) ?_
      refine k_iload_n dX8_canPlace_31 1 rfl rfl ?_
      refine k_aload_n dX8_canPlace_32 0 rfl rfl (by decide) ?_
      refine k_iload_n dX8_canPlace_33 1 rfl rfl ?_
      refine k_iload dX8_canPlace_34 5 rfl ?_
      refine k_callVr (st := [.int (iI (p)), .ref 123]) (as := [.int (iI (p)), .int (iI ((i6 : Int)))]) dX8_canPlace_36 oX8_wish w_2000 w_2002 w_51 rfl (by omega) rfl (Nat.le_of_ble_eq_true rfl) (by decide) (s_123 hsh) rfl (c8_wish (σ := σ) hsh hM (by omega) (by omega)) ?_
      have q13 := k_Mo_wish hM (x := 57 + 3 * p + (i6 : Int)) (by omega) (by omega)
      refine k_iload dX8_canPlace_39 4 rfl ?_
      refine k_iload_n dX8_canPlace_41 3 rfl rfl ?_
      refine k_callVrP (st := []) (as := [.int (iI (p)), .int (iI ((σ 124) (57 + 3 * p + (i6 : Int)).toNat)), .int (iI (x6)), .int (iI (nr))]) dX8_canPlace_42 oX8_more w_2092 w_2094 w_63 rfl (by omega) rfl (Nat.le_of_ble_eq_true rfl) (by decide) (s_123 hsh) rfl (c8_more hsh hM (by omega) (by omega) (by omega) (by omega)) (fun z15 => ?_)
      have z15 : 0 ≤ m_more (σ 124) p ((σ 124) (57 + 3 * p + (i6 : Int)).toNat) x6 nr ∧ m_more (σ 124) p ((σ 124) (57 + 3 * p + (i6 : Int)).toNat) x6 nr < 65536 := z15
      refine k_istore (ls' := [(0, .ref 123), (1, .int (iI (p))), (2, .int (iI (set))), (3, .int (iI (nr))), (4, .int (iI (m_more (σ 124) p ((σ 124) (57 + 3 * p + (i6 : Int)).toNat) x6 nr))), (5, .int (iI ((i6 : Int))))]) dX8_canPlace_45 (by decide) rfl rfl ?_
      refine k_iinc (ls' := [(0, .ref 123), (1, .int (iI (p))), (2, .int (iI (set))), (3, .int (iI (nr))), (4, .int (iI (m_more (σ 124) p ((σ 124) (57 + 3 * p + (i6 : Int)).toNat) x6 nr))), (5, .int (iI ((i6 : Int) + 1)))]) dX8_canPlace_47 5 rfl (by decide) rfl rfl ?_
      refine k_goto (tgt := 6) dX8_canPlace_50 rfl ?_
      exact ih6 (m_more (σ 124) p ((σ 124) (57 + 3 * p + (i6 : Int)).toNat) x6 nr) (show 0 ≤ m_more (σ 124) p ((σ 124) (57 + 3 * p + (i6 : Int)).toNat) x6 nr ∧ m_more (σ 124) p ((σ 124) (57 + 3 * p + (i6 : Int)).toNat) x6 nr < 65536 from by omega)
def m_isServable (r : Nat → Int) (p : Int) : Bool := decide (m_canPlace r p ((z_one (r (45 + p).toNat)) - 1) 0 = true)
set_option maxRecDepth 100000 in
set_option maxHeartbeats 4000000 in
theorem c8_isServable (hsh : k_Main sh) (hM : k_Mo (σ 124)) {p : Int} (h_p : 0 ≤ p ∧ p < 12) : k_C E mX8_isServable 6 [.ref 123, .int (iI (p))] sh σ 0 0 ((k_pB sh σ) (m_isServable (σ 124) p)) := by
  refine k_C_of (ls0 := [(0, .ref 123), (1, .int (iI (p)))]) rfl pnX8 (fun v hv => k_cat1 rfl hv) (Nat.le_of_ble_eq_true rfl) rfl ?_
  obtain ⟨⟨t0, t0b⟩, ⟨t1, t1b⟩, ⟨t2, t2b⟩, ⟨t3, t3b⟩, -⟩ := id hM
  unfold m_isServable
  refine k_aload_n dX8_isServable_0 0 rfl rfl (by decide) ?_
  refine k_iload_n dX8_isServable_1 1 rfl rfl ?_
  refine k_iconst (v := 1) dX8_isServable_2 rfl ?_
  refine k_aload_n dX8_isServable_3 0 rfl rfl (by decide) ?_
  refine k_get (kf := 0) (v := .ref 124) dX8_isServable_4 kcX8 w_1747 (by decide) (by decide) (s_123 hsh) rfl rfl ?_
  refine k_bipush (v := 45) dX8_isServable_7 (by decide) ?_
  refine k_iload_n dX8_isServable_9 1 rfl rfl ?_
  refine k_iadd dX8_isServable_10 ?_
  refine k_iald dX8_isServable_11 (by decide) (s_124 hsh) (by omega) (by omega) (by decide) ?_
  have q1 := k_Mo_many hM (x := 45 + p) (by omega) (by omega)
  refine k_ishl (v := (iI (z_one ((σ 124) (45 + p).toNat)))) dX8_isServable_12 (z_oneI (by omega) (by omega)) ?_
  have q2 := z_one_pos ((σ 124) (45 + p).toNat)
  have q3 : z_one ((σ 124) (45 + p).toNat) < 2147483648 := z_one_lt 31 (show ((σ 124) (45 + p).toNat) < 31 by omega) (by omega)
  refine k_iconst (v := 1) dX8_isServable_13 rfl ?_
  have y4 : z_one (σ 124 (45 + p).toNat) < 16 := z_one_lt 4 (show σ 124 (45 + p).toNat < 4 by omega) (by omega)
  refine k_isub dX8_isServable_14 ?_
  refine k_iconst (v := 0) dX8_isServable_15 rfl ?_
  refine k_callVrP (st := []) (as := [.int (iI (p)), .int (iI ((z_one ((σ 124) (45 + p).toNat)) - 1)), .int (iI (0))]) dX8_isServable_16 oX8_canPlace w_2088 w_2090 w_62 rfl (by omega) rfl (Nat.le_of_ble_eq_true rfl) (by decide) (s_123 hsh) rfl (c8_canPlace hsh hM (by omega) (by omega) (by omega)) (fun z5 => ?_)
  exact k_retzP dX8_isServable_19 rfl (zb_z _) rfl k_lfD True.intro
abbrev R_mover (v : Int) : Prop := -1 ≤ v ∧ v ≤ 11
def r_mover_3 (r : Nat → Int) (s : Int) (fr : Int) (tt : Int) (x3 : Unit) : Int := -1
def b_mover_3 (r : Nat → Int) (s : Int) (fr : Int) (tt : Int) (i3 : Nat) (x3 : Unit) : (Int) ⊕ (Unit) := if (r (105 + 4 * (i3 : Int) + fr).toNat) = s then if (r (105 + 4 * (i3 : Int) + tt).toNat) = (-1) then .inl ((i3 : Int)) else .inr (()) else .inr (())
def m_mover (r : Nat → Int) (s : Int) (fr : Int) (tt : Int) : Int := k_els (r_mover_3 r s fr tt) (k_for (b_mover_3 r s fr tt) ((r 2).toNat) 0 ())
set_option maxRecDepth 100000 in
set_option maxHeartbeats 4000000 in
theorem c8_mover (hsh : k_Main sh) (hM : k_Mo (σ 124)) {s fr tt : Int} (h_s : -2147483648 ≤ s ∧ s < 2147483648) (h_fr : 0 ≤ fr ∧ fr < 4) (h_tt : 0 ≤ tt ∧ tt < 4) : k_C E mX8_mover 2 [.ref 123, .int (iI (s)), .int (iI (fr)), .int (iI (tt))] sh σ 0 0 ((k_pV sh σ R_mover) (m_mover (σ 124) s fr tt)) := by
  refine k_C_of (ls0 := [(0, .ref 123), (1, .int (iI (s))), (2, .int (iI (fr))), (3, .int (iI (tt)))]) rfl pnX8 (fun v hv => k_cat1 rfl hv) (Nat.le_of_ble_eq_true rfl) rfl ?_
  obtain ⟨⟨t0, t0b⟩, ⟨t1, t1b⟩, ⟨t2, t2b⟩, ⟨t3, t3b⟩, -⟩ := id hM
  unfold m_mover
  refine k_iconst (v := 0) dX8_mover_0 rfl ?_
  refine k_istore (ls' := [(0, .ref 123), (1, .int (iI (s))), (2, .int (iI (fr))), (3, .int (iI (tt))), (4, .int (iI (0)))]) dX8_mover_1 (by decide) rfl rfl ?_
  refine k_loopR (α := Unit) (P := fun (i3 : Nat) (x3 : Unit) Q => k_V E mX8_mover _ 3 [(0, .ref 123), (1, .int (iI (s))), (2, .int (iI (fr))), (3, .int (iI (tt))), (4, .int (iI ((i3 : Int))))] [] sh σ _ _ Q) (J := fun (i3 : Nat) (x3 : Unit) => True) (((σ 124) 2).toNat) (b_mover_3 (σ 124) s fr tt) () (F := fun t => (k_pV sh σ R_mover) (k_els (r_mover_3 (σ 124) s fr tt) t)) (show True from True.intro) ?_ ?_
  · intro x3 hJ3
    show k_V E mX8_mover _ 3 [(0, .ref 123), (1, .int (iI (s))), (2, .int (iI (fr))), (3, .int (iI (tt))), (4, .int (iI (((((σ 124) 2).toNat : Nat) : Int))))] [] sh σ _ _ ((k_pV sh σ R_mover) ((r_mover_3 (σ 124) s fr tt) x3))
    unfold r_mover_3
    refine k_iload dX8_mover_3 4 rfl ?_
    refine k_aload_n dX8_mover_5 0 rfl rfl (by decide) ?_
    refine k_get (kf := 0) (v := .ref 124) dX8_mover_6 kcX8 w_1747 (by decide) (by decide) (s_123 hsh) rfl rfl ?_
    refine k_iconst (v := 2) dX8_mover_9 rfl ?_
    refine k_iald dX8_mover_10 (by decide) (s_124 hsh) (by omega) (by omega) (by decide) ?_
    refine k_eqst (st' := [.int (iI ((σ 124) 2)), .int (iI (((((σ 124) 2).toNat : Nat) : Int)))]) rfl ?_
    refine k_icmp_ge (tgt := 45) dX8_mover_11 rfl ⟨by omega, by omega⟩ ⟨by omega, by omega⟩ (fun h2 => ?_) (fun h2 => absurd h2 (by omega))
    refine k_iconst (v := (-1)) dX8_mover_45 rfl ?_
    exact k_retiP dX8_mover_46 rfl rfl rfl (show -1 ≤ (-1 : Int) ∧ (-1 : Int) ≤ 11 from by omega)
  · intro n3 i3 x3 hi3 hJ3 ih3
    show k_V E mX8_mover _ 3 [(0, .ref 123), (1, .int (iI (s))), (2, .int (iI (fr))), (3, .int (iI (tt))), (4, .int (iI ((i3 : Int))))] [] sh σ _ _ ((fun t => (k_pV sh σ R_mover) (k_els (r_mover_3 (σ 124) s fr tt) (k_cn2 (k_for (b_mover_3 (σ 124) s fr tt) n3 (i3 + 1)) t))) ((b_mover_3 (σ 124) s fr tt) i3 x3))
    unfold b_mover_3
    refine k_iload dX8_mover_3 4 rfl ?_
    refine k_aload_n dX8_mover_5 0 rfl rfl (by decide) ?_
    refine k_get (kf := 0) (v := .ref 124) dX8_mover_6 kcX8 w_1747 (by decide) (by decide) (s_123 hsh) rfl rfl ?_
    refine k_iconst (v := 2) dX8_mover_9 rfl ?_
    refine k_iald dX8_mover_10 (by decide) (s_124 hsh) (by omega) (by omega) (by decide) ?_
    refine k_eqst (st' := [.int (iI ((σ 124) 2)), .int (iI ((i3 : Int)))]) rfl ?_
    refine k_icmp_ge (tgt := 45) dX8_mover_11 rfl ⟨by omega, by omega⟩ ⟨by omega, by omega⟩ (fun h3 => absurd h3 (by omega)) (fun h3 => ?_)
    refine k_aload_n dX8_mover_14 0 rfl rfl (by decide) ?_
    refine k_iload dX8_mover_15 4 rfl ?_
    refine k_iload_n dX8_mover_17 2 rfl rfl ?_
    refine k_callVr (st := []) (as := [.int (iI ((i3 : Int))), .int (iI (fr))]) dX8_mover_18 oX8_subjectOf w_1908 w_1910 w_40 rfl (by omega) rfl (Nat.le_of_ble_eq_true rfl) (by decide) (s_123 hsh) rfl (c8_subjectOf (σ := σ) hsh hM (by omega) (by omega)) ?_
    have q4 := k_Mo_tab hM (x := 105 + 4 * (i3 : Int) + fr) (by omega) (by omega)
    refine k_iload_n dX8_mover_21 1 rfl rfl ?_
    refine k_icmp_ne (tgt := 39) dX8_mover_22 rfl ⟨by omega, by omega⟩ ⟨by omega, by omega⟩ (fun h6 => ?_) (fun h6 => ?_)
    · refine k_iff (F := (fun t => (k_pV sh σ R_mover) (k_els (r_mover_3 (σ 124) s fr tt) (k_cn2 (k_for (b_mover_3 (σ 124) s fr tt) n3 (i3 + 1)) t)))) h6 ?_
      refine k_iinc (ls' := [(0, .ref 123), (1, .int (iI (s))), (2, .int (iI (fr))), (3, .int (iI (tt))), (4, .int (iI ((i3 : Int) + 1)))]) dX8_mover_39 4 rfl (by decide) rfl rfl ?_
      refine k_goto (tgt := 3) dX8_mover_42 rfl ?_
      exact ih3 (()) (show True from True.intro)
    · refine k_ift (F := (fun t => (k_pV sh σ R_mover) (k_els (r_mover_3 (σ 124) s fr tt) (k_cn2 (k_for (b_mover_3 (σ 124) s fr tt) n3 (i3 + 1)) t)))) h6 ?_
      refine k_aload_n dX8_mover_25 0 rfl rfl (by decide) ?_
      refine k_iload dX8_mover_26 4 rfl ?_
      refine k_iload_n dX8_mover_28 3 rfl rfl ?_
      refine k_callVr (st := []) (as := [.int (iI ((i3 : Int))), .int (iI (tt))]) dX8_mover_29 oX8_subjectOf w_1908 w_1910 w_40 rfl (by omega) rfl (Nat.le_of_ble_eq_true rfl) (by decide) (s_123 hsh) rfl (c8_subjectOf (σ := σ) hsh hM (by omega) (by omega)) ?_
      have q7 := k_Mo_tab hM (x := 105 + 4 * (i3 : Int) + tt) (by omega) (by omega)
      refine k_iconst (v := (-1)) dX8_mover_32 rfl ?_
      refine k_icmp_ne (tgt := 39) dX8_mover_33 rfl ⟨by omega, by omega⟩ ⟨by decide, by decide⟩ (fun h9 => ?_) (fun h9 => ?_)
      · refine k_iff (F := (fun t => (k_pV sh σ R_mover) (k_els (r_mover_3 (σ 124) s fr tt) (k_cn2 (k_for (b_mover_3 (σ 124) s fr tt) n3 (i3 + 1)) t)))) h9 ?_
        refine k_iinc (ls' := [(0, .ref 123), (1, .int (iI (s))), (2, .int (iI (fr))), (3, .int (iI (tt))), (4, .int (iI ((i3 : Int) + 1)))]) dX8_mover_39 4 rfl (by decide) rfl rfl ?_
        refine k_goto (tgt := 3) dX8_mover_42 rfl ?_
        exact ih3 (()) (show True from True.intro)
      · refine k_ift (F := (fun t => (k_pV sh σ R_mover) (k_els (r_mover_3 (σ 124) s fr tt) (k_cn2 (k_for (b_mover_3 (σ 124) s fr tt) n3 (i3 + 1)) t)))) h9 ?_
        refine k_iload dX8_mover_36 4 rfl ?_
        exact k_retiP dX8_mover_38 rfl rfl rfl (show -1 ≤ (i3 : Int) ∧ (i3 : Int) ≤ 11 from by omega)
def m_isEntry (r : Nat → Int) (p : Int) (s : Int) (b : Int) : Bool := if b < (r 1) then if r (17 + 4 * s + b).toNat = 1 then if (r (105 + 4 * p + b).toNat) = (-1) then true else false else false else false
set_option maxRecDepth 100000 in
set_option maxHeartbeats 4000000 in
theorem c8_isEntry (hsh : k_Main sh) (hM : k_Mo (σ 124)) {p s b : Int} (h_p : 0 ≤ p ∧ p < 12) (h_s : 0 ≤ s ∧ s < 7) (h_b : 0 ≤ b ∧ b < 4) : k_C E mX8_isEntry 2 [.ref 123, .int (iI (p)), .int (iI (s)), .int (iI (b))] sh σ 0 0 ((k_pB sh σ) (m_isEntry (σ 124) p s b)) := by
  refine k_C_of (ls0 := [(0, .ref 123), (1, .int (iI (p))), (2, .int (iI (s))), (3, .int (iI (b)))]) rfl pnX8 (fun v hv => k_cat1 rfl hv) (Nat.le_of_ble_eq_true rfl) rfl ?_
  obtain ⟨⟨t0, t0b⟩, ⟨t1, t1b⟩, ⟨t2, t2b⟩, ⟨t3, t3b⟩, -⟩ := id hM
  unfold m_isEntry
  refine k_iload_n dX8_isEntry_0 3 rfl rfl ?_
  refine k_aload_n dX8_isEntry_1 0 rfl rfl (by decide) ?_
  refine k_get (kf := 0) (v := .ref 124) dX8_isEntry_2 kcX8 w_1747 (by decide) (by decide) (s_123 hsh) rfl rfl ?_
  refine k_iconst (v := 1) dX8_isEntry_5 rfl ?_
  refine k_iald dX8_isEntry_6 (by decide) (s_124 hsh) (by omega) (by omega) (by decide) ?_
  refine k_eqst (st' := [.int (iI ((σ 124) 1)), .int (iI (b))]) rfl ?_
  refine k_icmp_ge (tgt := 33) dX8_isEntry_7 rfl ⟨by omega, by omega⟩ ⟨by omega, by omega⟩ (fun h1 => ?_) (fun h1 => ?_)
  · refine k_iff (F := (k_pB sh σ)) (Int.not_lt.mpr h1) ?_
    refine k_iconst (v := 0) dX8_isEntry_33 rfl ?_
    exact k_retzP dX8_isEntry_34 rfl (Or.inl rfl) rfl k_lfF True.intro
  · refine k_ift (F := (k_pB sh σ)) h1 ?_
    refine k_aload_n dX8_isEntry_10 0 rfl rfl (by decide) ?_
    refine k_iload_n dX8_isEntry_11 2 rfl rfl ?_
    refine k_iload_n dX8_isEntry_12 3 rfl rfl ?_
    refine k_callVr (st := []) (as := [.int (iI (s)), .int (iI (b))]) dX8_isEntry_13 oX8_hasOpen w_1928 w_1930 w_42 rfl (by omega) rfl (Nat.le_of_ble_eq_true rfl) (by decide) (s_123 hsh) rfl (c8_hasOpen (σ := σ) hsh hM (by omega) (by omega)) ?_
    refine k_if_eq (tgt := 33) dX8_isEntry_16 rfl (zb_kr _) (fun h3 => ?_) (fun h3 => ?_)
    · have h3 := zb_0.mp h3
      refine k_iff (F := (k_pB sh σ)) h3 ?_
      refine k_iconst (v := 0) dX8_isEntry_33 rfl ?_
      exact k_retzP dX8_isEntry_34 rfl (Or.inl rfl) rfl k_lfF True.intro
    · have h3 := zb_n0.mp h3
      refine k_ift (F := (k_pB sh σ)) h3 ?_
      refine k_aload_n dX8_isEntry_19 0 rfl rfl (by decide) ?_
      refine k_iload_n dX8_isEntry_20 1 rfl rfl ?_
      refine k_iload_n dX8_isEntry_21 3 rfl rfl ?_
      refine k_callVr (st := []) (as := [.int (iI (p)), .int (iI (b))]) dX8_isEntry_22 oX8_subjectOf w_1908 w_1910 w_40 rfl (by omega) rfl (Nat.le_of_ble_eq_true rfl) (by decide) (s_123 hsh) rfl (c8_subjectOf (σ := σ) hsh hM (by omega) (by omega)) ?_
      have q4 := k_Mo_tab hM (x := 105 + 4 * p + b) (by omega) (by omega)
      refine k_iconst (v := (-1)) dX8_isEntry_25 rfl ?_
      refine k_icmp_ne (tgt := 33) dX8_isEntry_26 rfl ⟨by omega, by omega⟩ ⟨by decide, by decide⟩ (fun h6 => ?_) (fun h6 => ?_)
      · refine k_iff (F := (k_pB sh σ)) h6 ?_
        refine k_iconst (v := 0) dX8_isEntry_33 rfl ?_
        exact k_retzP dX8_isEntry_34 rfl (Or.inl rfl) rfl k_lfF True.intro
      · refine k_ift (F := (k_pB sh σ)) h6 ?_
        refine k_iconst (v := 1) dX8_isEntry_29 rfl ?_
        refine k_goto (tgt := 34) dX8_isEntry_30 rfl ?_
        exact k_retzP dX8_isEntry_34 rfl (Or.inr rfl) rfl k_lfT True.intro
def r_isChain_20 (r : Nat → Int) (st : Nat → Int) (p : Int) (s : Int) (mo : Int) (x20 : Unit) : Bool := if (m_inClass r s (st (mo).toNat)) < (r (10 + s).toNat) then true else false
def b_isChain_20 (r : Nat → Int) (st : Nat → Int) (p : Int) (s : Int) (mo : Int) (i20 : Nat) (x20 : Unit) : (Bool) ⊕ (Unit) := if (st (((i20 : Int)) + 1).toNat) < (r 1) then if r (17 + 4 * s + (st (((i20 : Int)) + 1).toNat)).toNat = 1 then if (m_mover r s (st ((i20 : Int)).toNat) (st (((i20 : Int)) + 1).toNat)) = (-1) then .inl (false) else .inr (()) else .inl (false) else .inl (false)
def m_isChain (r : Nat → Int) (st : Nat → Int) (p : Int) (s : Int) (mo : Int) : Bool := if m_isEntry r p s (st 0) = true then k_els (r_isChain_20 r st p s mo) (k_for (b_isChain_20 r st p s mo) ((mo).toNat) 0 ()) else false
set_option maxRecDepth 100000 in
set_option maxHeartbeats 4000000 in
theorem c8_isChain (hsh : k_Main sh) (hM : k_Mo (σ 124)) {p s mo : Int} (h_p : 0 ≤ p ∧ p < 12) (h_s : 0 ≤ s ∧ s < 7) (h_mo : 0 ≤ mo ∧ mo ≤ 3) (hS : k_rg 0 3 (σ 133)) : k_C E mX8_isChain 3 [.ref 123, .int (iI (p)), .int (iI (s)), .int (iI (mo))] sh σ 0 0 ((k_pB sh σ) (m_isChain (σ 124) (σ 133) p s mo)) := by
  refine k_C_of (ls0 := [(0, .ref 123), (1, .int (iI (p))), (2, .int (iI (s))), (3, .int (iI (mo)))]) rfl pnX8 (fun v hv => k_cat1 rfl hv) (Nat.le_of_ble_eq_true rfl) rfl ?_
  obtain ⟨⟨t0, t0b⟩, ⟨t1, t1b⟩, ⟨t2, t2b⟩, ⟨t3, t3b⟩, -⟩ := id hM
  unfold m_isChain
  refine k_aload_n dX8_isChain_0 0 rfl rfl (by decide) ?_
  refine k_iload_n dX8_isChain_1 1 rfl rfl ?_
  refine k_iload_n dX8_isChain_2 2 rfl rfl ?_
  refine k_aload_n dX8_isChain_3 0 rfl rfl (by decide) ?_
  refine k_get (kf := 20) (v := .ref 133) dX8_isChain_4 kcX8 w_1767 (by decide) (by decide) (s_123 hsh) rfl rfl ?_
  refine k_iconst (v := 0) dX8_isChain_7 rfl ?_
  refine k_iald dX8_isChain_8 (by decide) (s_133 hsh) (by omega) (by omega) (by decide) ?_
  refine k_eqst (st' := [.int (iI ((σ 133) 0)), .int (iI (s)), .int (iI (p)), .ref 123]) rfl ?_
  have q1 := hS 0
  refine k_callVrP (st := []) (as := [.int (iI (p)), .int (iI (s)), .int (iI ((σ 133) 0))]) dX8_isChain_9 oX8_isEntry w_2132 w_2134 w_68 rfl (by omega) rfl (Nat.le_of_ble_eq_true rfl) (by decide) (s_123 hsh) rfl (c8_isEntry hsh hM (by omega) (by omega) (by omega)) (fun z2 => ?_)
  refine k_if_ne (tgt := 17) dX8_isChain_12 rfl (zb_kr _) (fun h3 => ?_) (fun h3 => ?_)
  · have h3 := zb_n0.mp h3
    refine k_ift (F := (k_pB sh σ)) h3 ?_
    refine k_iconst (v := 0) dX8_isChain_17 rfl ?_
    refine k_istore (ls' := [(0, .ref 123), (1, .int (iI (p))), (2, .int (iI (s))), (3, .int (iI (mo))), (4, .int (iI (0)))]) dX8_isChain_18 (by decide) rfl rfl ?_
    refine k_loopR (α := Unit) (P := fun (i20 : Nat) (x20 : Unit) Q => k_V E mX8_isChain _ 20 [(0, .ref 123), (1, .int (iI (p))), (2, .int (iI (s))), (3, .int (iI (mo))), (4, .int (iI ((i20 : Int))))] [] sh σ _ _ Q) (J := fun (i20 : Nat) (x20 : Unit) => True) ((mo).toNat) (b_isChain_20 (σ 124) (σ 133) p s mo) () (F := fun t => (k_pB sh σ) (k_els (r_isChain_20 (σ 124) (σ 133) p s mo) t)) (show True from True.intro) ?_ ?_
    · intro x20 hJ20
      show k_V E mX8_isChain _ 20 [(0, .ref 123), (1, .int (iI (p))), (2, .int (iI (s))), (3, .int (iI (mo))), (4, .int (iI ((((mo).toNat : Nat) : Int))))] [] sh σ _ _ ((k_pB sh σ) ((r_isChain_20 (σ 124) (σ 133) p s mo) x20))
      unfold r_isChain_20
      refine k_iload dX8_isChain_20 4 rfl ?_
      refine k_iload_n dX8_isChain_22 3 rfl rfl ?_
      refine k_icmp_ge (tgt := 94) dX8_isChain_23 rfl ⟨by omega, by omega⟩ ⟨by omega, by omega⟩ (fun h5 => ?_) (fun h5 => absurd h5 (by omega))
      refine k_aload_n dX8_isChain_94 0 rfl rfl (by decide) ?_
      refine k_iload_n dX8_isChain_95 2 rfl rfl ?_
      refine k_aload_n dX8_isChain_96 0 rfl rfl (by decide) ?_
      refine k_get (kf := 20) (v := .ref 133) dX8_isChain_97 kcX8 w_1767 (by decide) (by decide) (s_123 hsh) rfl rfl ?_
      refine k_iload_n dX8_isChain_100 3 rfl rfl ?_
      refine k_iald dX8_isChain_101 (by decide) (s_133 hsh) (by omega) (by omega) (by decide) ?_
      have q6 := hS (mo).toNat
      refine k_callVrP (st := []) (as := [.int (iI (s)), .int (iI ((σ 133) (mo).toNat))]) dX8_isChain_102 oX8_inClass w_1904 w_1906 w_39 rfl (by omega) rfl (Nat.le_of_ble_eq_true rfl) (by decide) (s_123 hsh) rfl (c8_inClass hsh hM (by omega) (by omega)) (fun z7 => ?_)
      have z7 : 0 ≤ m_inClass (σ 124) s ((σ 133) (mo).toNat) ∧ m_inClass (σ 124) s ((σ 133) (mo).toNat) ≤ 12 := z7
      refine k_aload_n dX8_isChain_105 0 rfl rfl (by decide) ?_
      refine k_get (kf := 0) (v := .ref 124) dX8_isChain_106 kcX8 w_1747 (by decide) (by decide) (s_123 hsh) rfl rfl ?_
      refine k_bipush (v := 10) dX8_isChain_109 (by decide) ?_
      refine k_iload_n dX8_isChain_111 2 rfl rfl ?_
      refine k_iadd dX8_isChain_112 ?_
      refine k_iald dX8_isChain_113 (by decide) (s_124 hsh) (by omega) (by omega) (by decide) ?_
      have q8 := k_Mo_siz hM (x := 10 + s) (by omega) (by omega)
      refine k_icmp_ge (tgt := 121) dX8_isChain_114 rfl ⟨by omega, by omega⟩ ⟨by omega, by omega⟩ (fun h9 => ?_) (fun h9 => ?_)
      · refine k_iff (F := (k_pB sh σ)) (Int.not_lt.mpr h9) ?_
        refine k_iconst (v := 0) dX8_isChain_121 rfl ?_
        exact k_retzP dX8_isChain_122 rfl (Or.inl rfl) rfl k_lfF True.intro
      · refine k_ift (F := (k_pB sh σ)) h9 ?_
        refine k_iconst (v := 1) dX8_isChain_117 rfl ?_
        refine k_goto (tgt := 122) dX8_isChain_118 rfl ?_
        exact k_retzP dX8_isChain_122 rfl (Or.inr rfl) rfl k_lfT True.intro
    · intro n20 i20 x20 hi20 hJ20 ih20
      show k_V E mX8_isChain _ 20 [(0, .ref 123), (1, .int (iI (p))), (2, .int (iI (s))), (3, .int (iI (mo))), (4, .int (iI ((i20 : Int))))] [] sh σ _ _ ((fun t => (k_pB sh σ) (k_els (r_isChain_20 (σ 124) (σ 133) p s mo) (k_cn2 (k_for (b_isChain_20 (σ 124) (σ 133) p s mo) n20 (i20 + 1)) t))) ((b_isChain_20 (σ 124) (σ 133) p s mo) i20 x20))
      unfold b_isChain_20
      refine k_iload dX8_isChain_20 4 rfl ?_
      refine k_iload_n dX8_isChain_22 3 rfl rfl ?_
      refine k_icmp_ge (tgt := 94) dX8_isChain_23 rfl ⟨by omega, by omega⟩ ⟨by omega, by omega⟩ (fun h10 => absurd h10 (by omega)) (fun h10 => ?_)
      refine k_aload_n dX8_isChain_26 0 rfl rfl (by decide) ?_
      refine k_get (kf := 20) (v := .ref 133) dX8_isChain_27 kcX8 w_1767 (by decide) (by decide) (s_123 hsh) rfl rfl ?_
      refine k_iload dX8_isChain_30 4 rfl ?_
      refine k_iconst (v := 1) dX8_isChain_32 rfl ?_
      refine k_iadd dX8_isChain_33 ?_
      refine k_iald dX8_isChain_34 (by decide) (s_133 hsh) (by omega) (by omega) (by decide) ?_
      have q11 := hS (((i20 : Int)) + 1).toNat
      refine k_aload_n dX8_isChain_35 0 rfl rfl (by decide) ?_
      refine k_get (kf := 0) (v := .ref 124) dX8_isChain_36 kcX8 w_1747 (by decide) (by decide) (s_123 hsh) rfl rfl ?_
      refine k_iconst (v := 1) dX8_isChain_39 rfl ?_
      refine k_iald dX8_isChain_40 (by decide) (s_124 hsh) (by omega) (by omega) (by decide) ?_
      refine k_eqst (st' := [.int (iI ((σ 124) 1)), .int (iI ((σ 133) (((i20 : Int)) + 1).toNat))]) rfl ?_
      refine k_icmp_ge (tgt := 86) dX8_isChain_41 rfl ⟨by omega, by omega⟩ ⟨by omega, by omega⟩ (fun h12 => ?_) (fun h12 => ?_)
      · refine k_iff (F := (fun t => (k_pB sh σ) (k_els (r_isChain_20 (σ 124) (σ 133) p s mo) (k_cn2 (k_for (b_isChain_20 (σ 124) (σ 133) p s mo) n20 (i20 + 1)) t)))) (Int.not_lt.mpr h12) ?_
        refine k_iconst (v := 0) dX8_isChain_86 rfl ?_
        exact k_retzP dX8_isChain_87 rfl (Or.inl rfl) rfl k_lfF True.intro
      · refine k_ift (F := (fun t => (k_pB sh σ) (k_els (r_isChain_20 (σ 124) (σ 133) p s mo) (k_cn2 (k_for (b_isChain_20 (σ 124) (σ 133) p s mo) n20 (i20 + 1)) t)))) h12 ?_
        refine k_aload_n dX8_isChain_44 0 rfl rfl (by decide) ?_
        refine k_iload_n dX8_isChain_45 2 rfl rfl ?_
        refine k_aload_n dX8_isChain_46 0 rfl rfl (by decide) ?_
        refine k_get (kf := 20) (v := .ref 133) dX8_isChain_47 kcX8 w_1767 (by decide) (by decide) (s_123 hsh) rfl rfl ?_
        refine k_iload dX8_isChain_50 4 rfl ?_
        refine k_iconst (v := 1) dX8_isChain_52 rfl ?_
        refine k_iadd dX8_isChain_53 ?_
        refine k_iald dX8_isChain_54 (by decide) (s_133 hsh) (by omega) (by omega) (by decide) ?_
        have q13 := hS (((i20 : Int)) + 1).toNat
        refine k_callVr (st := []) (as := [.int (iI (s)), .int (iI ((σ 133) (((i20 : Int)) + 1).toNat))]) dX8_isChain_55 oX8_hasOpen w_1928 w_1930 w_42 rfl (by omega) rfl (Nat.le_of_ble_eq_true rfl) (by decide) (s_123 hsh) rfl (c8_hasOpen (σ := σ) hsh hM (by omega) (by omega)) ?_
        refine k_if_eq (tgt := 86) dX8_isChain_58 rfl (zb_kr _) (fun h15 => ?_) (fun h15 => ?_)
        · have h15 := zb_0.mp h15
          refine k_iff (F := (fun t => (k_pB sh σ) (k_els (r_isChain_20 (σ 124) (σ 133) p s mo) (k_cn2 (k_for (b_isChain_20 (σ 124) (σ 133) p s mo) n20 (i20 + 1)) t)))) h15 ?_
          refine k_iconst (v := 0) dX8_isChain_86 rfl ?_
          exact k_retzP dX8_isChain_87 rfl (Or.inl rfl) rfl k_lfF True.intro
        · have h15 := zb_n0.mp h15
          refine k_ift (F := (fun t => (k_pB sh σ) (k_els (r_isChain_20 (σ 124) (σ 133) p s mo) (k_cn2 (k_for (b_isChain_20 (σ 124) (σ 133) p s mo) n20 (i20 + 1)) t)))) h15 ?_
          refine k_aload_n dX8_isChain_61 0 rfl rfl (by decide) ?_
          refine k_iload_n dX8_isChain_62 2 rfl rfl ?_
          refine k_aload_n dX8_isChain_63 0 rfl rfl (by decide) ?_
          refine k_get (kf := 20) (v := .ref 133) dX8_isChain_64 kcX8 w_1767 (by decide) (by decide) (s_123 hsh) rfl rfl ?_
          refine k_iload dX8_isChain_67 4 rfl ?_
          refine k_iald dX8_isChain_69 (by decide) (s_133 hsh) (by omega) (by omega) (by decide) ?_
          have q16 := hS ((i20 : Int)).toNat
          refine k_aload_n dX8_isChain_70 0 rfl rfl (by decide) ?_
          refine k_get (kf := 20) (v := .ref 133) dX8_isChain_71 kcX8 w_1767 (by decide) (by decide) (s_123 hsh) rfl rfl ?_
          refine k_iload dX8_isChain_74 4 rfl ?_
          refine k_iconst (v := 1) dX8_isChain_76 rfl ?_
          refine k_iadd dX8_isChain_77 ?_
          refine k_iald dX8_isChain_78 (by decide) (s_133 hsh) (by omega) (by omega) (by decide) ?_
          have q17 := hS (((i20 : Int)) + 1).toNat
          refine k_callVrP (st := []) (as := [.int (iI (s)), .int (iI ((σ 133) ((i20 : Int)).toNat)), .int (iI ((σ 133) (((i20 : Int)) + 1).toNat))]) dX8_isChain_79 oX8_mover w_2136 w_2138 w_69 rfl (by omega) rfl (Nat.le_of_ble_eq_true rfl) (by decide) (s_123 hsh) rfl (c8_mover hsh hM (by omega) (by omega) (by omega)) (fun z18 => ?_)
          have z18 : -1 ≤ m_mover (σ 124) s ((σ 133) ((i20 : Int)).toNat) ((σ 133) (((i20 : Int)) + 1).toNat) ∧ m_mover (σ 124) s ((σ 133) ((i20 : Int)).toNat) ((σ 133) (((i20 : Int)) + 1).toNat) ≤ 11 := z18
          refine k_iconst (v := (-1)) dX8_isChain_82 rfl ?_
          refine k_icmp_ne (tgt := 88) dX8_isChain_83 rfl ⟨by omega, by omega⟩ ⟨by decide, by decide⟩ (fun h19 => ?_) (fun h19 => ?_)
          · refine k_iff (F := (fun t => (k_pB sh σ) (k_els (r_isChain_20 (σ 124) (σ 133) p s mo) (k_cn2 (k_for (b_isChain_20 (σ 124) (σ 133) p s mo) n20 (i20 + 1)) t)))) h19 ?_
            refine k_iinc (ls' := [(0, .ref 123), (1, .int (iI (p))), (2, .int (iI (s))), (3, .int (iI (mo))), (4, .int (iI ((i20 : Int) + 1)))]) dX8_isChain_88 4 rfl (by decide) rfl rfl ?_
            refine k_goto (tgt := 20) dX8_isChain_91 rfl ?_
            exact ih20 (()) (show True from True.intro)
          · refine k_ift (F := (fun t => (k_pB sh σ) (k_els (r_isChain_20 (σ 124) (σ 133) p s mo) (k_cn2 (k_for (b_isChain_20 (σ 124) (σ 133) p s mo) n20 (i20 + 1)) t)))) h19 ?_
            refine k_iconst (v := 0) dX8_isChain_86 rfl ?_
            exact k_retzP dX8_isChain_87 rfl (Or.inl rfl) rfl k_lfF True.intro
  · have h3 := zb_0.mp h3
    refine k_iff (F := (k_pB sh σ)) h3 ?_
    refine k_iconst (v := 0) dX8_isChain_15 rfl ?_
    exact k_retzP dX8_isChain_16 rfl (Or.inl rfl) rfl k_lfF True.intro
abbrev R_whyRefused (v : Int) : Prop := 1 ≤ v ∧ v ≤ 3
def r_whyRefused_5 (r : Nat → Int) (p : Int) (s : Int) (x5 : Int) : Int := if (m_openOf r s) = 0 then 1 else if x5 = 0 then 2 else 3
def b_whyRefused_5 (r : Nat → Int) (p : Int) (s : Int) (i5 : Nat) (x5 : Int) : Int := if x5 = 0 then if m_isEntry r p s (i5 : Int) = true then 1 else 0 else 1
def m_whyRefused (r : Nat → Int) (p : Int) (s : Int) : Int := (r_whyRefused_5 r p s) (k_it (b_whyRefused_5 r p s) ((r 1).toNat) 0 (0))
set_option maxRecDepth 100000 in
set_option maxHeartbeats 4000000 in
theorem c8_whyRefused (hsh : k_Main sh) (hM : k_Mo (σ 124)) {p s : Int} (h_p : 0 ≤ p ∧ p < 12) (h_s : 0 ≤ s ∧ s < 7) : k_C E mX8_whyRefused 3 [.ref 123, .int (iI (p)), .int (iI (s))] sh σ 0 0 ((k_pV sh σ R_whyRefused) (m_whyRefused (σ 124) p s)) := by
  refine k_C_of (ls0 := [(0, .ref 123), (1, .int (iI (p))), (2, .int (iI (s)))]) rfl pnX8 (fun v hv => k_cat1 rfl hv) (Nat.le_of_ble_eq_true rfl) rfl ?_
  obtain ⟨⟨t0, t0b⟩, ⟨t1, t1b⟩, ⟨t2, t2b⟩, ⟨t3, t3b⟩, -⟩ := id hM
  unfold m_whyRefused
  refine k_iconst (v := 0) dX8_whyRefused_0 rfl ?_
  refine k_istore_n (ls' := [(0, .ref 123), (1, .int (iI (p))), (2, .int (iI (s))), (3, .int (iI (0)))]) dX8_whyRefused_1 rfl (by decide) rfl rfl ?_
  refine k_iconst (v := 0) dX8_whyRefused_2 rfl ?_
  refine k_istore (ls' := [(0, .ref 123), (1, .int (iI (p))), (2, .int (iI (s))), (3, .int (iI (0))), (4, .int (iI (0)))]) dX8_whyRefused_3 (by decide) rfl rfl ?_
  refine k_loop (α := Int) (P := fun (i5 : Nat) (x5 : Int) Q => k_V E mX8_whyRefused _ 5 [(0, .ref 123), (1, .int (iI (p))), (2, .int (iI (s))), (3, .int (iI (x5))), (4, .int (iI ((i5 : Int))))] [] sh σ _ _ Q) (J := fun (i5 : Nat) (x5 : Int) => 0 ≤ x5 ∧ x5 ≤ 1) (((σ 124) 1).toNat) (b_whyRefused_5 (σ 124) p s) (0) (F := fun t => (k_pV sh σ R_whyRefused) ((r_whyRefused_5 (σ 124) p s) t)) (show 0 ≤ (0 : Int) ∧ (0 : Int) ≤ 1 from by omega) ?_ ?_
  · intro x5 hJ5
    have hJ5 : 0 ≤ x5 ∧ x5 ≤ 1 := hJ5
    have hU5 := hJ5
    show k_V E mX8_whyRefused _ 5 [(0, .ref 123), (1, .int (iI (p))), (2, .int (iI (s))), (3, .int (iI (x5))), (4, .int (iI (((((σ 124) 1).toNat : Nat) : Int))))] [] sh σ _ _ ((k_pV sh σ R_whyRefused) ((r_whyRefused_5 (σ 124) p s) x5))
    unfold r_whyRefused_5
    refine k_iload dX8_whyRefused_5 4 rfl ?_
    refine k_aload_n dX8_whyRefused_7 0 rfl rfl (by decide) ?_
    refine k_get (kf := 0) (v := .ref 124) dX8_whyRefused_8 kcX8 w_1747 (by decide) (by decide) (s_123 hsh) rfl rfl ?_
    refine k_iconst (v := 1) dX8_whyRefused_11 rfl ?_
    refine k_iald dX8_whyRefused_12 (by decide) (s_124 hsh) (by omega) (by omega) (by decide) ?_
    refine k_eqst (st' := [.int (iI ((σ 124) 1)), .int (iI (((((σ 124) 1).toNat : Nat) : Int)))]) rfl ?_
    refine k_icmp_ge (tgt := 43) dX8_whyRefused_13 rfl ⟨by omega, by omega⟩ ⟨by omega, by omega⟩ (fun h2 => ?_) (fun h2 => absurd h2 (by omega))
    refine k_aload_n dX8_whyRefused_43 0 rfl rfl (by decide) ?_
    refine k_iload_n dX8_whyRefused_44 2 rfl rfl ?_
    refine k_callVrP (st := []) (as := [.int (iI (s))]) dX8_whyRefused_45 oX8_openOf w_1948 w_1950 w_45 rfl (by omega) rfl (Nat.le_of_ble_eq_true rfl) (by decide) (s_123 hsh) rfl (c8_openOf hsh hM (by omega)) (fun z3 => ?_)
    have z3 : 0 ≤ m_openOf (σ 124) s ∧ m_openOf (σ 124) s ≤ 4 := z3
    refine k_if_ne (tgt := 55) dX8_whyRefused_48 rfl ⟨by omega, by omega⟩ (fun h4 => ?_) (fun h4 => ?_)
    · refine k_iff (F := (k_pV sh σ R_whyRefused)) h4 ?_
      refine k_iload_n dX8_whyRefused_55 3 rfl rfl ?_
      refine k_if_eq (tgt := 63) dX8_whyRefused_56 rfl ⟨by omega, by omega⟩ (fun h5 => ?_) (fun h5 => ?_)
      · refine k_ift (F := (k_pV sh σ R_whyRefused)) h5 ?_
        refine k_iconst (v := 2) dX8_whyRefused_63 rfl ?_
        exact k_retiP dX8_whyRefused_64 rfl rfl rfl (show 1 ≤ (2 : Int) ∧ (2 : Int) ≤ 3 from by omega)
      · refine k_iff (F := (k_pV sh σ R_whyRefused)) h5 ?_
        refine k_iconst (v := 3) dX8_whyRefused_59 rfl ?_
        refine k_goto (tgt := 64) dX8_whyRefused_60 rfl ?_
        exact k_retiP dX8_whyRefused_64 rfl rfl rfl (show 1 ≤ (3 : Int) ∧ (3 : Int) ≤ 3 from by omega)
    · refine k_ift (F := (k_pV sh σ R_whyRefused)) h4 ?_
      refine k_iconst (v := 1) dX8_whyRefused_51 rfl ?_
      refine k_goto (tgt := 64) dX8_whyRefused_52 rfl ?_
      exact k_retiP dX8_whyRefused_64 rfl rfl rfl (show 1 ≤ (1 : Int) ∧ (1 : Int) ≤ 3 from by omega)
  · intro n5 i5 x5 hi5 hJ5 ih5
    have hJ5 : 0 ≤ x5 ∧ x5 ≤ 1 := hJ5
    have hU5 := hJ5
    show k_V E mX8_whyRefused _ 5 [(0, .ref 123), (1, .int (iI (p))), (2, .int (iI (s))), (3, .int (iI (x5))), (4, .int (iI ((i5 : Int))))] [] sh σ _ _ ((fun t => (k_pV sh σ R_whyRefused) ((r_whyRefused_5 (σ 124) p s) (k_it (b_whyRefused_5 (σ 124) p s) n5 (i5 + 1) t))) ((b_whyRefused_5 (σ 124) p s) i5 x5))
    unfold b_whyRefused_5
    refine k_iload dX8_whyRefused_5 4 rfl ?_
    refine k_aload_n dX8_whyRefused_7 0 rfl rfl (by decide) ?_
    refine k_get (kf := 0) (v := .ref 124) dX8_whyRefused_8 kcX8 w_1747 (by decide) (by decide) (s_123 hsh) rfl rfl ?_
    refine k_iconst (v := 1) dX8_whyRefused_11 rfl ?_
    refine k_iald dX8_whyRefused_12 (by decide) (s_124 hsh) (by omega) (by omega) (by decide) ?_
    refine k_eqst (st' := [.int (iI ((σ 124) 1)), .int (iI ((i5 : Int)))]) rfl ?_
    refine k_icmp_ge (tgt := 43) dX8_whyRefused_13 rfl ⟨by omega, by omega⟩ ⟨by omega, by omega⟩ (fun h6 => absurd h6 (by omega)) (fun h6 => ?_)
    refine k_iload_n dX8_whyRefused_16 3 rfl rfl ?_
    refine k_if_ne (tgt := 31) dX8_whyRefused_17 rfl ⟨by omega, by omega⟩ (fun h7 => ?_) (fun h7 => ?_)
    · refine k_iff (F := (fun t => (k_pV sh σ R_whyRefused) ((r_whyRefused_5 (σ 124) p s) (k_it (b_whyRefused_5 (σ 124) p s) n5 (i5 + 1) t)))) h7 ?_
      refine k_iconst (v := 1) dX8_whyRefused_31 rfl ?_
      refine k_goto (tgt := 36) dX8_whyRefused_32 rfl ?_
      refine k_istore_n (ls' := [(0, .ref 123), (1, .int (iI (p))), (2, .int (iI (s))), (3, .int (iI (1))), (4, .int (iI ((i5 : Int))))]) dX8_whyRefused_36 rfl (by decide) rfl rfl ?_
      refine k_iinc (ls' := [(0, .ref 123), (1, .int (iI (p))), (2, .int (iI (s))), (3, .int (iI (1))), (4, .int (iI ((i5 : Int) + 1)))]) dX8_whyRefused_37 4 rfl (by decide) rfl rfl ?_
      refine k_goto (tgt := 5) dX8_whyRefused_40 rfl ?_
      exact ih5 (1) (show 0 ≤ (1 : Int) ∧ (1 : Int) ≤ 1 from by omega)
    · refine k_ift (F := (fun t => (k_pV sh σ R_whyRefused) ((r_whyRefused_5 (σ 124) p s) (k_it (b_whyRefused_5 (σ 124) p s) n5 (i5 + 1) t)))) h7 ?_
      refine k_aload_n dX8_whyRefused_20 0 rfl rfl (by decide) ?_
      refine k_iload_n dX8_whyRefused_21 1 rfl rfl ?_
      refine k_iload_n dX8_whyRefused_22 2 rfl rfl ?_
      refine k_iload dX8_whyRefused_23 4 rfl ?_
      refine k_callVrP (st := []) (as := [.int (iI (p)), .int (iI (s)), .int (iI ((i5 : Int)))]) dX8_whyRefused_25 oX8_isEntry w_2132 w_2134 w_68 rfl (by omega) rfl (Nat.le_of_ble_eq_true rfl) (by decide) (s_123 hsh) rfl (c8_isEntry hsh hM (by omega) (by omega) (by omega)) (fun z8 => ?_)
      refine k_if_eq (tgt := 35) dX8_whyRefused_28 rfl (zb_kr _) (fun h9 => ?_) (fun h9 => ?_)
      · have h9 := zb_0.mp h9
        refine k_iff (F := (fun t => (k_pV sh σ R_whyRefused) ((r_whyRefused_5 (σ 124) p s) (k_it (b_whyRefused_5 (σ 124) p s) n5 (i5 + 1) t)))) h9 ?_
        refine k_iconst (v := 0) dX8_whyRefused_35 rfl ?_
        refine k_istore_n (ls' := [(0, .ref 123), (1, .int (iI (p))), (2, .int (iI (s))), (3, .int (iI (0))), (4, .int (iI ((i5 : Int))))]) dX8_whyRefused_36 rfl (by decide) rfl rfl ?_
        refine k_iinc (ls' := [(0, .ref 123), (1, .int (iI (p))), (2, .int (iI (s))), (3, .int (iI (0))), (4, .int (iI ((i5 : Int) + 1)))]) dX8_whyRefused_37 4 rfl (by decide) rfl rfl ?_
        refine k_goto (tgt := 5) dX8_whyRefused_40 rfl ?_
        exact ih5 (0) (show 0 ≤ (0 : Int) ∧ (0 : Int) ≤ 1 from by omega)
      · have h9 := zb_n0.mp h9
        refine k_ift (F := (fun t => (k_pV sh σ R_whyRefused) ((r_whyRefused_5 (σ 124) p s) (k_it (b_whyRefused_5 (σ 124) p s) n5 (i5 + 1) t)))) h9 ?_
        refine k_iconst (v := 1) dX8_whyRefused_31 rfl ?_
        refine k_goto (tgt := 36) dX8_whyRefused_32 rfl ?_
        refine k_istore_n (ls' := [(0, .ref 123), (1, .int (iI (p))), (2, .int (iI (s))), (3, .int (iI (1))), (4, .int (iI ((i5 : Int))))]) dX8_whyRefused_36 rfl (by decide) rfl rfl ?_
        refine k_iinc (ls' := [(0, .ref 123), (1, .int (iI (p))), (2, .int (iI (s))), (3, .int (iI (1))), (4, .int (iI ((i5 : Int) + 1)))]) dX8_whyRefused_37 4 rfl (by decide) rfl rfl ?_
        refine k_goto (tgt := 5) dX8_whyRefused_40 rfl ?_
        exact ih5 (1) (show 0 ≤ (1 : Int) ∧ (1 : Int) ≤ 1 from by omega)
abbrev R_common (v : Int) : Prop := 0 ≤ v ∧ v ≤ 12
def r_common_5 (r : Nat → Int) (a : Int) (b : Int) (x5 : Int) : Int := x5
def b_common_5 (r : Nat → Int) (a : Int) (b : Int) (i5 : Nat) (x5 : Int) : Int := if m_isWish r (i5 : Int) a = true then if m_isWish r (i5 : Int) b = true then x5 + 1 else x5 + 0 else x5 + 0
def m_common (r : Nat → Int) (a : Int) (b : Int) : Int := (r_common_5 r a b) (k_it (b_common_5 r a b) ((r 2).toNat) 0 (0))
set_option maxRecDepth 100000 in
set_option maxHeartbeats 4000000 in
theorem c8_common (hsh : k_Main sh) (hM : k_Mo (σ 124)) {a b : Int} (h_a : -2147483648 ≤ a ∧ a < 2147483648) (h_b : -2147483648 ≤ b ∧ b < 2147483648) : k_C E mX8_common 3 [.ref 123, .int (iI (a)), .int (iI (b))] sh σ 0 0 ((k_pV sh σ R_common) (m_common (σ 124) a b)) := by
  refine k_C_of (ls0 := [(0, .ref 123), (1, .int (iI (a))), (2, .int (iI (b)))]) rfl pnX8 (fun v hv => k_cat1 rfl hv) (Nat.le_of_ble_eq_true rfl) rfl ?_
  obtain ⟨⟨t0, t0b⟩, ⟨t1, t1b⟩, ⟨t2, t2b⟩, ⟨t3, t3b⟩, -⟩ := id hM
  unfold m_common
  refine k_iconst (v := 0) dX8_common_0 rfl ?_
  refine k_istore_n (ls' := [(0, .ref 123), (1, .int (iI (a))), (2, .int (iI (b))), (3, .int (iI (0)))]) dX8_common_1 rfl (by decide) rfl rfl ?_
  refine k_iconst (v := 0) dX8_common_2 rfl ?_
  refine k_istore (ls' := [(0, .ref 123), (1, .int (iI (a))), (2, .int (iI (b))), (3, .int (iI (0))), (4, .int (iI (0)))]) dX8_common_3 (by decide) rfl rfl ?_
  refine k_loop (α := Int) (P := fun (i5 : Nat) (x5 : Int) Q => k_V E mX8_common _ 5 [(0, .ref 123), (1, .int (iI (a))), (2, .int (iI (b))), (3, .int (iI (x5))), (4, .int (iI ((i5 : Int))))] [] sh σ _ _ Q) (J := fun (i5 : Nat) (x5 : Int) => 0 ≤ x5 ∧ x5 ≤ (i5 : Int)) (((σ 124) 2).toNat) (b_common_5 (σ 124) a b) (0) (F := fun t => (k_pV sh σ R_common) ((r_common_5 (σ 124) a b) t)) (show 0 ≤ (0 : Int) ∧ (0 : Int) ≤ ((0 : Nat) : Int) from by omega) ?_ ?_
  · intro x5 hJ5
    have hJ5 : 0 ≤ x5 ∧ x5 ≤ ((((σ 124) 2).toNat : Nat) : Int) := hJ5
    have hU5 := hJ5
    show k_V E mX8_common _ 5 [(0, .ref 123), (1, .int (iI (a))), (2, .int (iI (b))), (3, .int (iI (x5))), (4, .int (iI (((((σ 124) 2).toNat : Nat) : Int))))] [] sh σ _ _ ((k_pV sh σ R_common) ((r_common_5 (σ 124) a b) x5))
    unfold r_common_5
    refine k_iload dX8_common_5 4 rfl ?_
    refine k_aload_n dX8_common_7 0 rfl rfl (by decide) ?_
    refine k_get (kf := 0) (v := .ref 124) dX8_common_8 kcX8 w_1747 (by decide) (by decide) (s_123 hsh) rfl rfl ?_
    refine k_iconst (v := 2) dX8_common_11 rfl ?_
    refine k_iald dX8_common_12 (by decide) (s_124 hsh) (by omega) (by omega) (by decide) ?_
    refine k_eqst (st' := [.int (iI ((σ 124) 2)), .int (iI (((((σ 124) 2).toNat : Nat) : Int)))]) rfl ?_
    refine k_icmp_ge (tgt := 50) dX8_common_13 rfl ⟨by omega, by omega⟩ ⟨by omega, by omega⟩ (fun h2 => ?_) (fun h2 => absurd h2 (by omega))
    refine k_iload_n dX8_common_50 3 rfl rfl ?_
    exact k_retiP dX8_common_51 rfl rfl rfl (show 0 ≤ x5 ∧ x5 ≤ 12 from by omega)
  · intro n5 i5 x5 hi5 hJ5 ih5
    have hJ5 : 0 ≤ x5 ∧ x5 ≤ (i5 : Int) := hJ5
    have hU5 := hJ5
    show k_V E mX8_common _ 5 [(0, .ref 123), (1, .int (iI (a))), (2, .int (iI (b))), (3, .int (iI (x5))), (4, .int (iI ((i5 : Int))))] [] sh σ _ _ ((fun t => (k_pV sh σ R_common) ((r_common_5 (σ 124) a b) (k_it (b_common_5 (σ 124) a b) n5 (i5 + 1) t))) ((b_common_5 (σ 124) a b) i5 x5))
    unfold b_common_5
    refine k_iload dX8_common_5 4 rfl ?_
    refine k_aload_n dX8_common_7 0 rfl rfl (by decide) ?_
    refine k_get (kf := 0) (v := .ref 124) dX8_common_8 kcX8 w_1747 (by decide) (by decide) (s_123 hsh) rfl rfl ?_
    refine k_iconst (v := 2) dX8_common_11 rfl ?_
    refine k_iald dX8_common_12 (by decide) (s_124 hsh) (by omega) (by omega) (by decide) ?_
    refine k_eqst (st' := [.int (iI ((σ 124) 2)), .int (iI ((i5 : Int)))]) rfl ?_
    refine k_icmp_ge (tgt := 50) dX8_common_13 rfl ⟨by omega, by omega⟩ ⟨by omega, by omega⟩ (fun h3 => absurd h3 (by omega)) (fun h3 => ?_)
    refine k_iload_n dX8_common_16 3 rfl rfl ?_
    refine k_aload_n dX8_common_17 0 rfl rfl (by decide) ?_
    refine k_iload dX8_common_18 4 rfl ?_
    refine k_iload_n dX8_common_20 1 rfl rfl ?_
    refine k_callVrP (st := [.int (iI (x5))]) (as := [.int (iI ((i5 : Int))), .int (iI (a))]) dX8_common_21 oX8_isWish w_1996 w_1998 w_50 rfl (by omega) rfl (Nat.le_of_ble_eq_true rfl) (by decide) (s_123 hsh) rfl (c8_isWish hsh hM (by omega) (by omega)) (fun z4 => ?_)
    refine k_if_eq (tgt := 41) dX8_common_24 rfl (zb_kr _) (fun h5 => ?_) (fun h5 => ?_)
    · have h5 := zb_0.mp h5
      refine k_iff (F := (fun t => (k_pV sh σ R_common) ((r_common_5 (σ 124) a b) (k_it (b_common_5 (σ 124) a b) n5 (i5 + 1) t)))) h5 ?_
      refine k_iconst (v := 0) dX8_common_41 rfl ?_
      refine k_iadd dX8_common_42 ?_
      refine k_istore_n (ls' := [(0, .ref 123), (1, .int (iI (a))), (2, .int (iI (b))), (3, .int (iI (x5 + 0))), (4, .int (iI ((i5 : Int))))]) dX8_common_43 rfl (by decide) rfl rfl ?_
      refine k_iinc (ls' := [(0, .ref 123), (1, .int (iI (a))), (2, .int (iI (b))), (3, .int (iI (x5 + 0))), (4, .int (iI ((i5 : Int) + 1)))]) dX8_common_44 4 rfl (by decide) rfl rfl ?_
      refine k_goto (tgt := 5) dX8_common_47 rfl ?_
      exact ih5 (x5 + 0) (show 0 ≤ x5 + 0 ∧ x5 + 0 ≤ ((i5 + 1 : Nat) : Int) from by omega)
    · have h5 := zb_n0.mp h5
      refine k_ift (F := (fun t => (k_pV sh σ R_common) ((r_common_5 (σ 124) a b) (k_it (b_common_5 (σ 124) a b) n5 (i5 + 1) t)))) h5 ?_
      refine k_aload_n dX8_common_27 0 rfl rfl (by decide) ?_
      refine k_iload dX8_common_28 4 rfl ?_
      refine k_iload_n dX8_common_30 2 rfl rfl ?_
      refine k_callVrP (st := [.int (iI (x5))]) (as := [.int (iI ((i5 : Int))), .int (iI (b))]) dX8_common_31 oX8_isWish w_1996 w_1998 w_50 rfl (by omega) rfl (Nat.le_of_ble_eq_true rfl) (by decide) (s_123 hsh) rfl (c8_isWish hsh hM (by omega) (by omega)) (fun z6 => ?_)
      refine k_if_eq (tgt := 41) dX8_common_34 rfl (zb_kr _) (fun h7 => ?_) (fun h7 => ?_)
      · have h7 := zb_0.mp h7
        refine k_iff (F := (fun t => (k_pV sh σ R_common) ((r_common_5 (σ 124) a b) (k_it (b_common_5 (σ 124) a b) n5 (i5 + 1) t)))) h7 ?_
        refine k_iconst (v := 0) dX8_common_41 rfl ?_
        refine k_iadd dX8_common_42 ?_
        refine k_istore_n (ls' := [(0, .ref 123), (1, .int (iI (a))), (2, .int (iI (b))), (3, .int (iI (x5 + 0))), (4, .int (iI ((i5 : Int))))]) dX8_common_43 rfl (by decide) rfl rfl ?_
        refine k_iinc (ls' := [(0, .ref 123), (1, .int (iI (a))), (2, .int (iI (b))), (3, .int (iI (x5 + 0))), (4, .int (iI ((i5 : Int) + 1)))]) dX8_common_44 4 rfl (by decide) rfl rfl ?_
        refine k_goto (tgt := 5) dX8_common_47 rfl ?_
        exact ih5 (x5 + 0) (show 0 ≤ x5 + 0 ∧ x5 + 0 ≤ ((i5 + 1 : Nat) : Int) from by omega)
      · have h7 := zb_n0.mp h7
        refine k_ift (F := (fun t => (k_pV sh σ R_common) ((r_common_5 (σ 124) a b) (k_it (b_common_5 (σ 124) a b) n5 (i5 + 1) t)))) h7 ?_
        refine k_iconst (v := 1) dX8_common_37 rfl ?_
        refine k_goto (tgt := 42) dX8_common_38 rfl ?_
        refine k_iadd dX8_common_42 ?_
        refine k_istore_n (ls' := [(0, .ref 123), (1, .int (iI (a))), (2, .int (iI (b))), (3, .int (iI (x5 + 1))), (4, .int (iI ((i5 : Int))))]) dX8_common_43 rfl (by decide) rfl rfl ?_
        refine k_iinc (ls' := [(0, .ref 123), (1, .int (iI (a))), (2, .int (iI (b))), (3, .int (iI (x5 + 1))), (4, .int (iI ((i5 : Int) + 1)))]) dX8_common_44 4 rfl (by decide) rfl rfl ?_
        refine k_goto (tgt := 5) dX8_common_47 rfl ?_
        exact ih5 (x5 + 1) (show 0 ≤ x5 + 1 ∧ x5 + 1 ≤ ((i5 + 1 : Nat) : Int) from by omega)
abbrev R_wrongPair (v : Int) : Prop := 0 ≤ v ∧ v ≤ 2
def m_wrongPair (r : Nat → Int) (s : Int) (o : Int) : Int := if 0 ≤ s ∧ s < r 0 then if 0 ≤ o ∧ o < r 0 then if s = o then 2 else 0 else 1 else 1
set_option maxRecDepth 100000 in
set_option maxHeartbeats 4000000 in
theorem c8_wrongPair (hsh : k_Main sh) (hM : k_Mo (σ 124)) {s o : Int} (h_s : -2147483648 ≤ s ∧ s < 2147483648) (h_o : -2147483648 ≤ o ∧ o < 2147483648) : k_C E mX8_wrongPair 3 [.ref 123, .int (iI (s)), .int (iI (o))] sh σ 0 0 ((k_pV sh σ R_wrongPair) (m_wrongPair (σ 124) s o)) := by
  refine k_C_of (ls0 := [(0, .ref 123), (1, .int (iI (s))), (2, .int (iI (o)))]) rfl pnX8 (fun v hv => k_cat1 rfl hv) (Nat.le_of_ble_eq_true rfl) rfl ?_
  obtain ⟨⟨t0, t0b⟩, ⟨t1, t1b⟩, ⟨t2, t2b⟩, ⟨t3, t3b⟩, -⟩ := id hM
  unfold m_wrongPair
  refine k_aload_n dX8_wrongPair_0 0 rfl rfl (by decide) ?_
  refine k_iload_n dX8_wrongPair_1 1 rfl rfl ?_
  refine k_callVr (st := []) (as := [.int (iI (s))]) dX8_wrongPair_2 oX8_isSubject w_1900 w_1902 w_38 rfl (by omega) rfl (Nat.le_of_ble_eq_true rfl) (by decide) (s_123 hsh) rfl (c8_isSubject (σ := σ) hsh hM ⟨by omega, by omega⟩) ?_
  refine k_if_eq (tgt := 16) dX8_wrongPair_5 rfl (zb_kr _) (fun h2 => ?_) (fun h2 => ?_)
  · have h2 := zb_0.mp h2
    refine k_iff (F := (k_pV sh σ R_wrongPair)) h2 ?_
    refine k_iconst (v := 1) dX8_wrongPair_16 rfl ?_
    refine k_goto (tgt := 30) dX8_wrongPair_17 rfl ?_
    exact k_retiP dX8_wrongPair_30 rfl rfl rfl (show 0 ≤ (1 : Int) ∧ (1 : Int) ≤ 2 from by omega)
  · have h2 := zb_n0.mp h2
    refine k_ift (F := (k_pV sh σ R_wrongPair)) h2 ?_
    refine k_aload_n dX8_wrongPair_8 0 rfl rfl (by decide) ?_
    refine k_iload_n dX8_wrongPair_9 2 rfl rfl ?_
    refine k_callVr (st := []) (as := [.int (iI (o))]) dX8_wrongPair_10 oX8_isSubject w_1900 w_1902 w_38 rfl (by omega) rfl (Nat.le_of_ble_eq_true rfl) (by decide) (s_123 hsh) rfl (c8_isSubject (σ := σ) hsh hM ⟨by omega, by omega⟩) ?_
    refine k_if_ne (tgt := 20) dX8_wrongPair_13 rfl (zb_kr _) (fun h4 => ?_) (fun h4 => ?_)
    · have h4 := zb_n0.mp h4
      refine k_ift (F := (k_pV sh σ R_wrongPair)) h4 ?_
      refine k_iload_n dX8_wrongPair_20 1 rfl rfl ?_
      refine k_iload_n dX8_wrongPair_21 2 rfl rfl ?_
      refine k_icmp_ne (tgt := 29) dX8_wrongPair_22 rfl ⟨by omega, by omega⟩ ⟨by omega, by omega⟩ (fun h5 => ?_) (fun h5 => ?_)
      · refine k_iff (F := (k_pV sh σ R_wrongPair)) h5 ?_
        refine k_iconst (v := 0) dX8_wrongPair_29 rfl ?_
        exact k_retiP dX8_wrongPair_30 rfl rfl rfl (show 0 ≤ (0 : Int) ∧ (0 : Int) ≤ 2 from by omega)
      · refine k_ift (F := (k_pV sh σ R_wrongPair)) h5 ?_
        refine k_iconst (v := 2) dX8_wrongPair_25 rfl ?_
        refine k_goto (tgt := 30) dX8_wrongPair_26 rfl ?_
        exact k_retiP dX8_wrongPair_30 rfl rfl rfl (show 0 ≤ (2 : Int) ∧ (2 : Int) ≤ 2 from by omega)
    · have h4 := zb_0.mp h4
      refine k_iff (F := (k_pV sh σ R_wrongPair)) h4 ?_
      refine k_iconst (v := 1) dX8_wrongPair_16 rfl ?_
      refine k_goto (tgt := 30) dX8_wrongPair_17 rfl ?_
      exact k_retiP dX8_wrongPair_30 rfl rfl rfl (show 0 ≤ (1 : Int) ∧ (1 : Int) ≤ 2 from by omega)
def r_clash_2 (r : Nat → Int) (a : Int) (b : Int) (x2 : Unit) : Bool := true
def r_clash_10 (r : Nat → Int) (a : Int) (b : Int) (i2 : Nat) (x2 : Unit) (x10 : Unit) : (Bool) ⊕ (Unit) := .inr (())
def b_clash_10 (r : Nat → Int) (a : Int) (b : Int) (i2 : Nat) (x2 : Unit) (i10 : Nat) (x10 : Unit) : ((Bool) ⊕ (Unit)) ⊕ (Unit) := if (i2 : Int) = (i10 : Int) then .inr (()) else if r (17 + 4 * a + (i2 : Int)).toNat = 1 then if r (17 + 4 * b + (i10 : Int)).toNat = 1 then .inl (.inl (false)) else .inr (()) else .inr (())
def b_clash_2 (r : Nat → Int) (a : Int) (b : Int) (i2 : Nat) (x2 : Unit) : (Bool) ⊕ (Unit) := k_els (r_clash_10 r a b i2 x2) (k_for (b_clash_10 r a b i2 x2) (4) 0 ())
def m_clash (r : Nat → Int) (a : Int) (b : Int) : Bool := k_els (r_clash_2 r a b) (k_for (b_clash_2 r a b) (4) 0 ())
set_option maxRecDepth 100000 in
set_option maxHeartbeats 4000000 in
theorem c8_clash (hsh : k_Main sh) (hM : k_Mo (σ 124)) {a b : Int} (h_a : 0 ≤ a ∧ a < 7) (h_b : 0 ≤ b ∧ b < 7) : k_C E mX8_clash 2 [.ref 123, .int (iI (a)), .int (iI (b))] sh σ 0 0 ((k_pB sh σ) (m_clash (σ 124) a b)) := by
  refine k_C_of (ls0 := [(0, .ref 123), (1, .int (iI (a))), (2, .int (iI (b)))]) rfl pnX8 (fun v hv => k_cat1 rfl hv) (Nat.le_of_ble_eq_true rfl) rfl ?_
  obtain ⟨⟨t0, t0b⟩, ⟨t1, t1b⟩, ⟨t2, t2b⟩, ⟨t3, t3b⟩, -⟩ := id hM
  unfold m_clash
  refine k_iconst (v := 0) dX8_clash_0 rfl ?_
  refine k_istore_n (ls' := [(0, .ref 123), (1, .int (iI (a))), (2, .int (iI (b))), (3, .int (iI (0)))]) dX8_clash_1 rfl (by decide) rfl rfl ?_
  refine k_loopR (α := Unit) (P := fun (i2 : Nat) (x2 : Unit) Q => k_V E mX8_clash _ 2 [(0, .ref 123), (1, .int (iI (a))), (2, .int (iI (b))), (3, .int (iI ((i2 : Int))))] [] sh σ _ _ Q) (J := fun (i2 : Nat) (x2 : Unit) => True) (4) (b_clash_2 (σ 124) a b) () (F := fun t => (k_pB sh σ) (k_els (r_clash_2 (σ 124) a b) t)) (show True from True.intro) ?_ ?_
  · intro x2 hJ2
    show k_V E mX8_clash _ 2 [(0, .ref 123), (1, .int (iI (a))), (2, .int (iI (b))), (3, .int (iI (((4 : Nat) : Int))))] [] sh σ _ _ ((k_pB sh σ) ((r_clash_2 (σ 124) a b) x2))
    unfold r_clash_2
    refine k_iload_n dX8_clash_2 3 rfl rfl ?_
    refine k_iconst (v := 4) dX8_clash_3 rfl ?_
    refine k_icmp_ge (tgt := 55) dX8_clash_4 rfl ⟨by omega, by omega⟩ ⟨by decide, by decide⟩ (fun h2 => ?_) (fun h2 => absurd h2 (by omega))
    refine k_iconst (v := 1) dX8_clash_55 rfl ?_
    exact k_retzP dX8_clash_56 rfl (Or.inr rfl) rfl k_lfT True.intro
  · intro n2 i2 x2 hi2 hJ2 ih2
    show k_V E mX8_clash _ 2 [(0, .ref 123), (1, .int (iI (a))), (2, .int (iI (b))), (3, .int (iI ((i2 : Int))))] [] sh σ _ _ ((fun t => (k_pB sh σ) (k_els (r_clash_2 (σ 124) a b) (k_cn2 (k_for (b_clash_2 (σ 124) a b) n2 (i2 + 1)) t))) ((b_clash_2 (σ 124) a b) i2 x2))
    unfold b_clash_2
    refine k_iload_n dX8_clash_2 3 rfl rfl ?_
    refine k_iconst (v := 4) dX8_clash_3 rfl ?_
    refine k_icmp_ge (tgt := 55) dX8_clash_4 rfl ⟨by omega, by omega⟩ ⟨by decide, by decide⟩ (fun h3 => absurd h3 (by omega)) (fun h3 => ?_)
    refine k_iconst (v := 0) dX8_clash_7 rfl ?_
    refine k_istore (ls' := [(0, .ref 123), (1, .int (iI (a))), (2, .int (iI (b))), (3, .int (iI ((i2 : Int)))), (4, .int (iI (0)))]) dX8_clash_8 (by decide) rfl rfl ?_
    refine k_loopR (α := Unit) (P := fun (i10 : Nat) (x10 : Unit) Q => k_V E mX8_clash _ 10 [(0, .ref 123), (1, .int (iI (a))), (2, .int (iI (b))), (3, .int (iI ((i2 : Int)))), (4, .int (iI ((i10 : Int))))] [] sh σ _ _ Q) (J := fun (i10 : Nat) (x10 : Unit) => True) (4) (b_clash_10 (σ 124) a b i2 x2) () (F := fun t => (fun t => (k_pB sh σ) (k_els (r_clash_2 (σ 124) a b) (k_cn2 (k_for (b_clash_2 (σ 124) a b) n2 (i2 + 1)) t))) (k_els (r_clash_10 (σ 124) a b i2 x2) t)) (show True from True.intro) ?_ ?_
    · intro x10 hJ10
      show k_V E mX8_clash _ 10 [(0, .ref 123), (1, .int (iI (a))), (2, .int (iI (b))), (3, .int (iI ((i2 : Int)))), (4, .int (iI (((4 : Nat) : Int))))] [] sh σ _ _ ((fun t => (k_pB sh σ) (k_els (r_clash_2 (σ 124) a b) (k_cn2 (k_for (b_clash_2 (σ 124) a b) n2 (i2 + 1)) t))) ((r_clash_10 (σ 124) a b i2 x2) x10))
      unfold r_clash_10
      refine k_iload dX8_clash_10 4 rfl ?_
      refine k_iconst (v := 4) dX8_clash_12 rfl ?_
      refine k_icmp_ge (tgt := 49) dX8_clash_13 rfl ⟨by omega, by omega⟩ ⟨by decide, by decide⟩ (fun h5 => ?_) (fun h5 => absurd h5 (by omega))
      refine k_iinc (ls' := [(0, .ref 123), (1, .int (iI (a))), (2, .int (iI (b))), (3, .int (iI ((i2 : Int) + 1))), (4, .int (iI (((4 : Nat) : Int))))]) dX8_clash_49 3 rfl (by decide) rfl rfl ?_
      refine k_goto (tgt := 2) dX8_clash_52 rfl ?_
      refine k_dropr (ls' := [(0, .ref 123), (1, .int (iI (a))), (2, .int (iI (b))), (3, .int (iI ((i2 : Int) + 1)))]) (ex := [(4, .int (iI (((4 : Nat) : Int))))]) rfl ?_
      exact ih2 (()) (show True from True.intro)
    · intro n10 i10 x10 hi10 hJ10 ih10
      show k_V E mX8_clash _ 10 [(0, .ref 123), (1, .int (iI (a))), (2, .int (iI (b))), (3, .int (iI ((i2 : Int)))), (4, .int (iI ((i10 : Int))))] [] sh σ _ _ ((fun t => (fun t => (k_pB sh σ) (k_els (r_clash_2 (σ 124) a b) (k_cn2 (k_for (b_clash_2 (σ 124) a b) n2 (i2 + 1)) t))) (k_els (r_clash_10 (σ 124) a b i2 x2) (k_cn2 (k_for (b_clash_10 (σ 124) a b i2 x2) n10 (i10 + 1)) t))) ((b_clash_10 (σ 124) a b i2 x2) i10 x10))
      unfold b_clash_10
      refine k_iload dX8_clash_10 4 rfl ?_
      refine k_iconst (v := 4) dX8_clash_12 rfl ?_
      refine k_icmp_ge (tgt := 49) dX8_clash_13 rfl ⟨by omega, by omega⟩ ⟨by decide, by decide⟩ (fun h6 => absurd h6 (by omega)) (fun h6 => ?_)
      refine k_iload_n dX8_clash_16 3 rfl rfl ?_
      refine k_iload dX8_clash_17 4 rfl ?_
      refine k_icmp_eq (tgt := 43) dX8_clash_19 rfl ⟨by omega, by omega⟩ ⟨by omega, by omega⟩ (fun h7 => ?_) (fun h7 => ?_)
      · refine k_ift (F := (fun t => (fun t => (k_pB sh σ) (k_els (r_clash_2 (σ 124) a b) (k_cn2 (k_for (b_clash_2 (σ 124) a b) n2 (i2 + 1)) t))) (k_els (r_clash_10 (σ 124) a b i2 x2) (k_cn2 (k_for (b_clash_10 (σ 124) a b i2 x2) n10 (i10 + 1)) t)))) h7 ?_
        refine k_iinc (ls' := [(0, .ref 123), (1, .int (iI (a))), (2, .int (iI (b))), (3, .int (iI ((i2 : Int)))), (4, .int (iI ((i10 : Int) + 1)))]) dX8_clash_43 4 rfl (by decide) rfl rfl ?_
        refine k_goto (tgt := 10) dX8_clash_46 rfl ?_
        exact ih10 (()) (show True from True.intro)
      · refine k_iff (F := (fun t => (fun t => (k_pB sh σ) (k_els (r_clash_2 (σ 124) a b) (k_cn2 (k_for (b_clash_2 (σ 124) a b) n2 (i2 + 1)) t))) (k_els (r_clash_10 (σ 124) a b i2 x2) (k_cn2 (k_for (b_clash_10 (σ 124) a b i2 x2) n10 (i10 + 1)) t)))) h7 ?_
        refine k_aload_n dX8_clash_22 0 rfl rfl (by decide) ?_
        refine k_iload_n dX8_clash_23 1 rfl rfl ?_
        refine k_iload_n dX8_clash_24 3 rfl rfl ?_
        refine k_callVr (st := []) (as := [.int (iI (a)), .int (iI ((i2 : Int)))]) dX8_clash_25 oX8_hasOpen w_1928 w_1930 w_42 rfl (by omega) rfl (Nat.le_of_ble_eq_true rfl) (by decide) (s_123 hsh) rfl (c8_hasOpen (σ := σ) hsh hM (by omega) (by omega)) ?_
        refine k_if_eq (tgt := 43) dX8_clash_28 rfl (zb_kr _) (fun h9 => ?_) (fun h9 => ?_)
        · have h9 := zb_0.mp h9
          refine k_iff (F := (fun t => (fun t => (k_pB sh σ) (k_els (r_clash_2 (σ 124) a b) (k_cn2 (k_for (b_clash_2 (σ 124) a b) n2 (i2 + 1)) t))) (k_els (r_clash_10 (σ 124) a b i2 x2) (k_cn2 (k_for (b_clash_10 (σ 124) a b i2 x2) n10 (i10 + 1)) t)))) h9 ?_
          refine k_iinc (ls' := [(0, .ref 123), (1, .int (iI (a))), (2, .int (iI (b))), (3, .int (iI ((i2 : Int)))), (4, .int (iI ((i10 : Int) + 1)))]) dX8_clash_43 4 rfl (by decide) rfl rfl ?_
          refine k_goto (tgt := 10) dX8_clash_46 rfl ?_
          exact ih10 (()) (show True from True.intro)
        · have h9 := zb_n0.mp h9
          refine k_ift (F := (fun t => (fun t => (k_pB sh σ) (k_els (r_clash_2 (σ 124) a b) (k_cn2 (k_for (b_clash_2 (σ 124) a b) n2 (i2 + 1)) t))) (k_els (r_clash_10 (σ 124) a b i2 x2) (k_cn2 (k_for (b_clash_10 (σ 124) a b i2 x2) n10 (i10 + 1)) t)))) h9 ?_
          refine k_aload_n dX8_clash_31 0 rfl rfl (by decide) ?_
          refine k_iload_n dX8_clash_32 2 rfl rfl ?_
          refine k_iload dX8_clash_33 4 rfl ?_
          refine k_callVr (st := []) (as := [.int (iI (b)), .int (iI ((i10 : Int)))]) dX8_clash_35 oX8_hasOpen w_1928 w_1930 w_42 rfl (by omega) rfl (Nat.le_of_ble_eq_true rfl) (by decide) (s_123 hsh) rfl (c8_hasOpen (σ := σ) hsh hM (by omega) (by omega)) ?_
          refine k_if_eq (tgt := 43) dX8_clash_38 rfl (zb_kr _) (fun h11 => ?_) (fun h11 => ?_)
          · have h11 := zb_0.mp h11
            refine k_iff (F := (fun t => (fun t => (k_pB sh σ) (k_els (r_clash_2 (σ 124) a b) (k_cn2 (k_for (b_clash_2 (σ 124) a b) n2 (i2 + 1)) t))) (k_els (r_clash_10 (σ 124) a b i2 x2) (k_cn2 (k_for (b_clash_10 (σ 124) a b i2 x2) n10 (i10 + 1)) t)))) h11 ?_
            refine k_iinc (ls' := [(0, .ref 123), (1, .int (iI (a))), (2, .int (iI (b))), (3, .int (iI ((i2 : Int)))), (4, .int (iI ((i10 : Int) + 1)))]) dX8_clash_43 4 rfl (by decide) rfl rfl ?_
            refine k_goto (tgt := 10) dX8_clash_46 rfl ?_
            exact ih10 (()) (show True from True.intro)
          · have h11 := zb_n0.mp h11
            refine k_ift (F := (fun t => (fun t => (k_pB sh σ) (k_els (r_clash_2 (σ 124) a b) (k_cn2 (k_for (b_clash_2 (σ 124) a b) n2 (i2 + 1)) t))) (k_els (r_clash_10 (σ 124) a b i2 x2) (k_cn2 (k_for (b_clash_10 (σ 124) a b i2 x2) n10 (i10 + 1)) t)))) h11 ?_
            refine k_iconst (v := 0) dX8_clash_41 rfl ?_
            exact k_retzP dX8_clash_42 rfl (Or.inl rfl) rfl k_lfF True.intro
set_option maxHeartbeats 4000000 in
theorem c8_fails (hsh : k_Main sh) {v : Int}  : k_C E mX8_fails 1 [.ref 123, .int (iI (v))] sh σ 0 0 (k_ret (some (.int (iI (0)))) sh (k_up σ 123 (k_u1 (σ 123) 7 v))) := by
  refine k_C_of (ls0 := [(0, .ref 123), (1, .int (iI (v)))]) rfl pnX8 (fun v hv => k_cat1 rfl hv) (Nat.le_of_ble_eq_true rfl) rfl ?_
  refine k_aload_n dX8_fails_0 0 rfl rfl (by decide) ?_
  refine k_iload_n dX8_fails_1 1 rfl rfl ?_
  refine k_putfW (kf := 7) dX8_fails_2 kcX8 w_1754 (by decide) (by decide) (s_123 hsh) rfl rfl rfl rfl ?_
  refine k_eqσ (σ' := (k_up σ 123 (k_u1 (σ 123) 7 (v)))) rfl ?_
  refine k_iconst (v := 0) dX8_fails_5 rfl ?_
  exact k_reti dX8_fails_6 rfl rfl (by first | rfl | omega)
set_option maxHeartbeats 4000000 in
theorem c8_tells (hsh : k_Main sh) {v : Int}  : k_C E mX8_tells 1 [.ref 123, .int (iI (v))] sh σ 0 0 (k_ret (some (.int (iI (v)))) sh (k_up σ 123 (k_u1 (σ 123) 7 0))) := by
  refine k_C_of (ls0 := [(0, .ref 123), (1, .int (iI (v)))]) rfl pnX8 (fun v hv => k_cat1 rfl hv) (Nat.le_of_ble_eq_true rfl) rfl ?_
  refine k_aload_n dX8_tells_0 0 rfl rfl (by decide) ?_
  refine k_iconst (v := 0) dX8_tells_1 rfl ?_
  refine k_putfW (kf := 7) dX8_tells_2 kcX8 w_1754 (by decide) (by decide) (s_123 hsh) rfl rfl rfl rfl ?_
  refine k_eqσ (σ' := (k_up σ 123 (k_u1 (σ 123) 7 (0)))) rfl ?_
  refine k_iload_n dX8_tells_5 1 rfl rfl ?_
  exact k_reti dX8_tells_6 rfl rfl (by first | rfl | omega)
set_option maxHeartbeats 4000000 in
theorem c8_bad (hsh : k_Main sh) {v : Int}  : k_C E mX8_bad 1 [.ref 123, .int (iI (v))] sh σ 0 0 (k_ret (some (.int (iI (0)))) sh (k_up σ 123 (k_u1 (σ 123) 8 v))) := by
  refine k_C_of (ls0 := [(0, .ref 123), (1, .int (iI (v)))]) rfl pnX8 (fun v hv => k_cat1 rfl hv) (Nat.le_of_ble_eq_true rfl) rfl ?_
  refine k_aload_n dX8_bad_0 0 rfl rfl (by decide) ?_
  refine k_iload_n dX8_bad_1 1 rfl rfl ?_
  refine k_putfW (kf := 8) dX8_bad_2 kcX8 w_1755 (by decide) (by decide) (s_123 hsh) rfl rfl rfl rfl ?_
  refine k_eqσ (σ' := (k_up σ 123 (k_u1 (σ 123) 8 (v)))) rfl ?_
  refine k_iconst (v := 0) dX8_bad_5 rfl ?_
  exact k_reti dX8_bad_6 rfl rfl (by first | rfl | omega)
set_option maxHeartbeats 4000000 in
theorem c8_begins (hsh : k_Main sh)  : k_C E mX8_begins 2 [.ref 123] sh σ 0 0 (k_ret none sh (k_up (k_up σ 123 (k_u1 (σ 123) 8 0)) 125 (σ 124))) := by
  refine k_C_of (ls0 := [(0, .ref 123)]) rfl pnX8 (fun v hv => k_cat1 rfl hv) (Nat.le_of_ble_eq_true rfl) rfl ?_
  refine k_aload_n dX8_begins_0 0 rfl rfl (by decide) ?_
  refine k_get (kf := 0) (v := .ref 124) dX8_begins_1 kcX8 w_1747 (by decide) (by decide) (s_123 hsh) rfl rfl ?_
  refine k_aload_n dX8_begins_4 0 rfl rfl (by decide) ?_
  refine k_get (kf := 1) (v := .ref 125) dX8_begins_5 kcX8 w_1748 (by decide) (by decide) (s_123 hsh) rfl rfl ?_
  refine k_callSr (st := []) (as := [.ref 124, .ref 125]) dX8_begins_8 oX8_copies w_1862 w_1863 rfl (by omega) rfl (Nat.le_of_ble_eq_true rfl) (c8_copies (by decide) (by decide) (s_124 hsh) (s_125 hsh) (by decide)) ?_
  refine k_eqσ (σ' := (k_up σ 125 (σ 124))) ((show k_up σ 125 (σ 124) = (k_up σ 125 (σ 124)) from rfl)).symm ?_
  refine k_aload_n dX8_begins_11 0 rfl rfl (by decide) ?_
  refine k_iconst (v := 0) dX8_begins_12 rfl ?_
  refine k_putfW (kf := 8) dX8_begins_13 kcX8 w_1755 (by decide) (by decide) (s_123 hsh) rfl rfl rfl rfl ?_
  refine k_eqσ (σ' := (k_up (k_up σ 123 (k_u1 (σ 123) 8 (0))) 125 (σ 124))) (show k_up (k_up σ 125 (σ 124)) 123 (k_u1 (σ 123) 8 (0)) = _ from (k_up_comm (by decide))).symm ?_
  exact k_retv dX8_begins_16 rfl rfl
abbrev R_addSubjectNow (t : Int × (Nat → Nat → Int)) : Prop := (-1 ≤ t.1 ∧ t.1 ≤ 1000) ∧ k_MA t.2
def r_addSubjectNow_52 (σ : Nat → Nat → Int) (z : Int) (x52 : (Nat → Int)) : Int × (Nat → Nat → Int) := ((σ 124) 0, (k_up σ 124 (k_u1 x52 0 ((x52 0) + 1))))
def b_addSubjectNow_52 (σ : Nat → Nat → Int) (z : Int) (i52 : Nat) (x52 : (Nat → Int)) : (Nat → Int) := (k_u1 x52 ((17 + (4 * ((σ 124) 0))) + ((i52 : Int))).toNat (0))
def m_addSubjectNow (σ : Nat → Nat → Int) (z : Int) : Int × (Nat → Nat → Int) := if 1 ≤ z ∧ z ≤ 9 then if ((σ 124) 0) = 7 then (0, (k_up σ 123 (k_u1 (σ 123) 8 (3)))) else (r_addSubjectNow_52 σ z) (k_it (b_addSubjectNow_52 σ z) (4) 0 ((k_u1 (σ 124) (10 + ((σ 124) 0)).toNat (z)))) else (0, (k_up σ 123 (k_u1 (σ 123) 8 (2))))
set_option maxRecDepth 100000 in
set_option maxHeartbeats 4000000 in
theorem c8_addSubjectNow (hsh : k_Main sh) (hMA : k_MA σ) {z : Int} (h_z : -2147483648 ≤ z ∧ z < 2147483648) : k_C E mX8_addSubjectNow 3 [.ref 123, .int (iI (z))] sh σ 0 0 ((k_pP sh R_addSubjectNow) (m_addSubjectNow σ z)) := by
  refine k_C_of (ls0 := [(0, .ref 123), (1, .int (iI (z)))]) rfl pnX8 (fun v hv => k_cat1 rfl hv) (Nat.le_of_ble_eq_true rfl) rfl ?_
  obtain ⟨⟨t0, t0b⟩, ⟨t1, t1b⟩, ⟨t2, t2b⟩, ⟨t3, t3b⟩, -⟩ := id hMA.2.1
  obtain ⟨⟨f9_0, g9_0⟩, ⟨f9_1, g9_1⟩, ⟨f9_2, g9_2⟩, ⟨f9_3, g9_3⟩, ⟨f9_4, g9_4⟩, ⟨f9_5, g9_5⟩, ⟨f9_6, g9_6⟩, ⟨f9_7, g9_7⟩, ⟨f9_8, g9_8⟩, ⟨f9_9, g9_9⟩, ⟨f9_10, g9_10⟩, ⟨f9_11, g9_11⟩, ⟨f9_12, g9_12⟩, ⟨f9_13, g9_13⟩⟩ := id hMA.1
  unfold m_addSubjectNow
  refine k_iload_n dX8_addSubjectNow_0 1 rfl rfl ?_
  refine k_iconst (v := 1) dX8_addSubjectNow_1 rfl ?_
  refine k_bipush (v := 9) dX8_addSubjectNow_2 (by decide) ?_
  refine k_callSr (st := []) (as := [.int (iI (z)), .int (iI (1)), .int (iI (9))]) dX8_addSubjectNow_4 oX8_in w_1881 w_1882 rfl (by omega) rfl (Nat.le_of_ble_eq_true rfl) (c8_in ⟨by omega, by omega⟩ ⟨by omega, by omega⟩ ⟨by omega, by omega⟩) ?_
  refine k_if_ne (tgt := 16) dX8_addSubjectNow_7 rfl (zb_kr _) (fun h2 => ?_) (fun h2 => ?_)
  · have h2 := zb_n0.mp h2
    refine k_ift (F := (k_pP sh R_addSubjectNow)) h2 ?_
    refine k_aload_n dX8_addSubjectNow_16 0 rfl rfl (by decide) ?_
    refine k_get (kf := 0) (v := .ref 124) dX8_addSubjectNow_17 kcX8 w_1747 (by decide) (by decide) (s_123 hsh) rfl rfl ?_
    refine k_iconst (v := 0) dX8_addSubjectNow_20 rfl ?_
    refine k_iald dX8_addSubjectNow_21 (by decide) (s_124 hsh) (by omega) (by omega) (by decide) ?_
    refine k_eqst (st' := [.int (iI ((σ 124) 0))]) rfl ?_
    refine k_bipush (v := 7) dX8_addSubjectNow_22 (by decide) ?_
    refine k_icmp_ne (tgt := 33) dX8_addSubjectNow_24 rfl ⟨by omega, by omega⟩ ⟨by decide, by decide⟩ (fun h3 => ?_) (fun h3 => ?_)
    · refine k_iff (F := (k_pP sh R_addSubjectNow)) h3 ?_
      refine k_aload_n dX8_addSubjectNow_33 0 rfl rfl (by decide) ?_
      refine k_get (kf := 0) (v := .ref 124) dX8_addSubjectNow_34 kcX8 w_1747 (by decide) (by decide) (s_123 hsh) rfl rfl ?_
      refine k_iconst (v := 0) dX8_addSubjectNow_37 rfl ?_
      refine k_iald dX8_addSubjectNow_38 (by decide) (s_124 hsh) (by omega) (by omega) (by decide) ?_
      refine k_eqst (st' := [.int (iI ((σ 124) 0))]) rfl ?_
      refine k_istore_n (ls' := [(0, .ref 123), (1, .int (iI (z))), (2, .int (iI ((σ 124) 0)))]) dX8_addSubjectNow_39 rfl (by decide) rfl rfl ?_
      refine k_aload_n dX8_addSubjectNow_40 0 rfl rfl (by decide) ?_
      refine k_get (kf := 0) (v := .ref 124) dX8_addSubjectNow_41 kcX8 w_1747 (by decide) (by decide) (s_123 hsh) rfl rfl ?_
      refine k_bipush (v := 10) dX8_addSubjectNow_44 (by decide) ?_
      refine k_iload_n dX8_addSubjectNow_46 2 rfl rfl ?_
      refine k_iadd dX8_addSubjectNow_47 ?_
      refine k_iload_n dX8_addSubjectNow_48 1 rfl rfl ?_
      refine k_iastW dX8_addSubjectNow_49 (by decide) (s_124 hsh) (by omega) (by omega) (by decide) ?_
      refine k_eqσ (σ' := (k_up σ 124 (k_u1 (σ 124) (10 + ((σ 124) 0)).toNat (z)))) rfl ?_
      refine k_iconst (v := 0) dX8_addSubjectNow_50 rfl ?_
      refine k_istore_n (ls' := [(0, .ref 123), (1, .int (iI (z))), (2, .int (iI ((σ 124) 0))), (3, .int (iI (0)))]) dX8_addSubjectNow_51 rfl (by decide) rfl rfl ?_
      refine k_loop (α := (Nat → Int)) (P := fun (i52 : Nat) (x52 : (Nat → Int)) Q => k_V E mX8_addSubjectNow _ 52 [(0, .ref 123), (1, .int (iI (z))), (2, .int (iI ((σ 124) 0))), (3, .int (iI ((i52 : Int))))] [] sh (k_up σ 124 x52) _ _ Q) (J := fun (i52 : Nat) (x52 : (Nat → Int)) => (x52 0 = σ 124 0) ∧ (k_Mo x52)) (4) (b_addSubjectNow_52 σ z) ((k_u1 (σ 124) (10 + ((σ 124) 0)).toNat (z))) (F := fun t => (k_pP sh R_addSubjectNow) ((r_addSubjectNow_52 σ z) t)) (show ((k_u1 (σ 124) (10 + ((σ 124) 0)).toNat (z)) 0 = σ 124 0) ∧ (k_Mo (k_u1 (σ 124) (10 + ((σ 124) 0)).toNat (z))) from ⟨(if_neg (by omega)), (show k_Mo (k_u1 (σ 124) (10 + ((σ 124) 0)).toNat (z)) from (k_Mo_u (hMA).2.1 (by omega)))⟩) ?_ ?_
      · intro x52 hJ52
        have hJ52 : (x52 0 = σ 124 0) ∧ (k_Mo x52) := hJ52
        obtain ⟨hU52, hW52_124⟩ := id hJ52
        show k_V E mX8_addSubjectNow _ 52 [(0, .ref 123), (1, .int (iI (z))), (2, .int (iI ((σ 124) 0))), (3, .int (iI (((4 : Nat) : Int))))] [] sh (k_up σ 124 x52) _ _ ((k_pP sh R_addSubjectNow) ((r_addSubjectNow_52 σ z) x52))
        unfold r_addSubjectNow_52
        refine k_iload_n dX8_addSubjectNow_52 3 rfl rfl ?_
        refine k_iconst (v := 4) dX8_addSubjectNow_53 rfl ?_
        refine k_icmp_ge (tgt := 77) dX8_addSubjectNow_54 rfl ⟨by omega, by omega⟩ ⟨by decide, by decide⟩ (fun h5 => ?_) (fun h5 => absurd h5 (by omega))
        refine k_aload_n dX8_addSubjectNow_77 0 rfl rfl (by decide) ?_
        refine k_get (kf := 0) (v := .ref 124) dX8_addSubjectNow_78 kcX8 w_1747 (by decide) (by decide) (s_123 hsh) rfl rfl ?_
        refine k_iconst (v := 0) dX8_addSubjectNow_81 rfl ?_
        refine k_dup2 dX8_addSubjectNow_82 rfl rfl ?_
        refine k_iald dX8_addSubjectNow_83 (by decide) (s_124 hsh) (by omega) (by omega) (by decide) ?_
        refine k_eqst (st' := [.int (iI (x52 0)), .int (iI (0)), .ref 124]) rfl ?_
        refine k_iconst (v := 1) dX8_addSubjectNow_84 rfl ?_
        refine k_iadd dX8_addSubjectNow_85 ?_
        refine k_iastW dX8_addSubjectNow_86 (by decide) (s_124 hsh) (by omega) (by omega) (by decide) ?_
        refine k_eqσ (σ' := (k_up σ 124 (k_u1 x52 0 ((x52 0) + 1)))) (show k_up (k_up σ 124 x52) 124 (k_u1 x52 0 ((x52 0) + 1)) = _ from k_up_up).symm ?_
        refine k_iload_n dX8_addSubjectNow_87 2 rfl rfl ?_
        exact k_retiP dX8_addSubjectNow_88 rfl rfl rfl (show (-1 ≤ (σ 124) 0 ∧ (σ 124) 0 ≤ 1000) ∧ k_MA (k_up σ 124 (k_u1 x52 0 ((x52 0) + 1))) from ⟨by omega, ⟨(hMA).1, (show k_Mo (k_u1 x52 0 ((x52 0) + 1)) from (k_Mo_u hW52_124 (by omega))), (hMA).2.2.1, (hMA).2.2.2.1, (hMA).2.2.2.2.1, (hMA).2.2.2.2.2.1, (hMA).2.2.2.2.2.2.1, (hMA).2.2.2.2.2.2.2.1, (hMA).2.2.2.2.2.2.2.2.1, (hMA).2.2.2.2.2.2.2.2.2.1, (hMA).2.2.2.2.2.2.2.2.2.2.1, (hMA).2.2.2.2.2.2.2.2.2.2.2.1, (hMA).2.2.2.2.2.2.2.2.2.2.2.2⟩⟩)
      · intro n52 i52 x52 hi52 hJ52 ih52
        have hJ52 : (x52 0 = σ 124 0) ∧ (k_Mo x52) := hJ52
        obtain ⟨hU52, hW52_124⟩ := id hJ52
        show k_V E mX8_addSubjectNow _ 52 [(0, .ref 123), (1, .int (iI (z))), (2, .int (iI ((σ 124) 0))), (3, .int (iI ((i52 : Int))))] [] sh (k_up σ 124 x52) _ _ ((fun t => (k_pP sh R_addSubjectNow) ((r_addSubjectNow_52 σ z) (k_it (b_addSubjectNow_52 σ z) n52 (i52 + 1) t))) ((b_addSubjectNow_52 σ z) i52 x52))
        unfold b_addSubjectNow_52
        refine k_iload_n dX8_addSubjectNow_52 3 rfl rfl ?_
        refine k_iconst (v := 4) dX8_addSubjectNow_53 rfl ?_
        refine k_icmp_ge (tgt := 77) dX8_addSubjectNow_54 rfl ⟨by omega, by omega⟩ ⟨by decide, by decide⟩ (fun h6 => absurd h6 (by omega)) (fun h6 => ?_)
        refine k_aload_n dX8_addSubjectNow_57 0 rfl rfl (by decide) ?_
        refine k_get (kf := 0) (v := .ref 124) dX8_addSubjectNow_58 kcX8 w_1747 (by decide) (by decide) (s_123 hsh) rfl rfl ?_
        refine k_bipush (v := 17) dX8_addSubjectNow_61 (by decide) ?_
        refine k_iconst (v := 4) dX8_addSubjectNow_63 rfl ?_
        refine k_iload_n dX8_addSubjectNow_64 2 rfl rfl ?_
        refine k_imul dX8_addSubjectNow_65 ?_
        refine k_iadd dX8_addSubjectNow_66 ?_
        refine k_iload_n dX8_addSubjectNow_67 3 rfl rfl ?_
        refine k_iadd dX8_addSubjectNow_68 ?_
        refine k_iconst (v := 0) dX8_addSubjectNow_69 rfl ?_
        refine k_iastW dX8_addSubjectNow_70 (by decide) (s_124 hsh) (by omega) (by omega) (by decide) ?_
        refine k_eqσ (σ' := (k_up σ 124 (k_u1 x52 ((17 + (4 * ((σ 124) 0))) + ((i52 : Int))).toNat (0)))) (show k_up (k_up σ 124 x52) 124 (k_u1 x52 ((17 + (4 * ((σ 124) 0))) + ((i52 : Int))).toNat (0)) = _ from k_up_up).symm ?_
        refine k_iinc (ls' := [(0, .ref 123), (1, .int (iI (z))), (2, .int (iI ((σ 124) 0))), (3, .int (iI ((i52 : Int) + 1)))]) dX8_addSubjectNow_71 3 rfl (by decide) rfl rfl ?_
        refine k_goto (tgt := 52) dX8_addSubjectNow_74 rfl ?_
        exact ih52 ((k_u1 x52 ((17 + (4 * ((σ 124) 0))) + ((i52 : Int))).toNat (0))) (show ((k_u1 x52 ((17 + (4 * ((σ 124) 0))) + ((i52 : Int))).toNat (0)) 0 = σ 124 0) ∧ (k_Mo (k_u1 x52 ((17 + (4 * ((σ 124) 0))) + ((i52 : Int))).toNat (0))) from ⟨((if_neg (by omega)).trans hU52), (show k_Mo (k_u1 x52 ((17 + (4 * ((σ 124) 0))) + ((i52 : Int))).toNat (0)) from (k_Mo_u hW52_124 (by omega)))⟩)
    · refine k_ift (F := (k_pP sh R_addSubjectNow)) h3 ?_
      refine k_aload_n dX8_addSubjectNow_27 0 rfl rfl (by decide) ?_
      refine k_iconst (v := 3) dX8_addSubjectNow_28 rfl ?_
      refine k_callVr (st := []) (as := [.int (iI (3))]) dX8_addSubjectNow_29 oX8_bad w_1884 w_1886 w_35 rfl (by omega) rfl (Nat.le_of_ble_eq_true rfl) (by decide) (s_123 hsh) rfl (c8_bad hsh) ?_
      refine k_eqσ (σ' := (k_up σ 123 (k_u1 (σ 123) 8 (3)))) ((show k_up σ 123 (k_u1 (σ 123) 8 (3)) = (k_up σ 123 (k_u1 (σ 123) 8 (3))) from rfl)).symm ?_
      exact k_retiP dX8_addSubjectNow_32 rfl rfl rfl (show (-1 ≤ (0 : Int) ∧ (0 : Int) ≤ 1000) ∧ k_MA (k_up σ 123 (k_u1 (σ 123) 8 (3))) from ⟨by omega, ⟨(show k_F0 (k_u1 (σ 123) 8 (3)) from (k_F0_u (hMA).1 (by omega))), (hMA).2.1, (hMA).2.2.1, (hMA).2.2.2.1, (hMA).2.2.2.2.1, (hMA).2.2.2.2.2.1, (hMA).2.2.2.2.2.2.1, (hMA).2.2.2.2.2.2.2.1, (hMA).2.2.2.2.2.2.2.2.1, (hMA).2.2.2.2.2.2.2.2.2.1, (hMA).2.2.2.2.2.2.2.2.2.2.1, (hMA).2.2.2.2.2.2.2.2.2.2.2.1, (hMA).2.2.2.2.2.2.2.2.2.2.2.2⟩⟩)
  · have h2 := zb_0.mp h2
    refine k_iff (F := (k_pP sh R_addSubjectNow)) h2 ?_
    refine k_aload_n dX8_addSubjectNow_10 0 rfl rfl (by decide) ?_
    refine k_iconst (v := 2) dX8_addSubjectNow_11 rfl ?_
    refine k_callVr (st := []) (as := [.int (iI (2))]) dX8_addSubjectNow_12 oX8_bad w_1884 w_1886 w_35 rfl (by omega) rfl (Nat.le_of_ble_eq_true rfl) (by decide) (s_123 hsh) rfl (c8_bad hsh) ?_
    refine k_eqσ (σ' := (k_up σ 123 (k_u1 (σ 123) 8 (2)))) ((show k_up σ 123 (k_u1 (σ 123) 8 (2)) = (k_up σ 123 (k_u1 (σ 123) 8 (2))) from rfl)).symm ?_
    exact k_retiP dX8_addSubjectNow_15 rfl rfl rfl (show (-1 ≤ (0 : Int) ∧ (0 : Int) ≤ 1000) ∧ k_MA (k_up σ 123 (k_u1 (σ 123) 8 (2))) from ⟨by omega, ⟨(show k_F0 (k_u1 (σ 123) 8 (2)) from (k_F0_u (hMA).1 (by omega))), (hMA).2.1, (hMA).2.2.1, (hMA).2.2.2.1, (hMA).2.2.2.2.1, (hMA).2.2.2.2.2.1, (hMA).2.2.2.2.2.2.1, (hMA).2.2.2.2.2.2.2.1, (hMA).2.2.2.2.2.2.2.2.1, (hMA).2.2.2.2.2.2.2.2.2.1, (hMA).2.2.2.2.2.2.2.2.2.2.1, (hMA).2.2.2.2.2.2.2.2.2.2.2.1, (hMA).2.2.2.2.2.2.2.2.2.2.2.2⟩⟩)
abbrev R_setSizeNow (t : Int × (Nat → Nat → Int)) : Prop := (-1 ≤ t.1 ∧ t.1 ≤ 1000) ∧ k_MA t.2
def r_setSizeNow_32 (σ : Nat → Nat → Int) (s : Int) (z : Int) (x32 : Unit) : Int × (Nat → Nat → Int) := ((σ 124) (10 + s).toNat, (k_up σ 124 (k_u1 (σ 124) (10 + s).toNat (z))))
def b_setSizeNow_32 (σ : Nat → Nat → Int) (s : Int) (z : Int) (i32 : Nat) (x32 : Unit) : (Int × (Nat → Nat → Int)) ⊕ (Unit) := if (m_inClass (σ 124) s (i32 : Int)) ≤ z then .inr (()) else .inl ((0, (k_up σ 123 (k_u1 (σ 123) 8 (3)))))
def m_setSizeNow (σ : Nat → Nat → Int) (s : Int) (z : Int) : Int × (Nat → Nat → Int) := if 0 ≤ s ∧ s < (σ 124) 0 then if 1 ≤ z ∧ z ≤ 9 then k_els (r_setSizeNow_32 σ s z) (k_for (b_setSizeNow_32 σ s z) (4) 0 ()) else (0, (k_up σ 123 (k_u1 (σ 123) 8 (2)))) else (0, (k_up σ 123 (k_u1 (σ 123) 8 (1))))
set_option maxRecDepth 100000 in
set_option maxHeartbeats 4000000 in
theorem c8_setSizeNow (hsh : k_Main sh) (hMA : k_MA σ) {s z : Int} (h_s : -2147483648 ≤ s ∧ s < 2147483648) (h_z : -2147483648 ≤ z ∧ z < 2147483648) : k_C E mX8_setSizeNow 4 [.ref 123, .int (iI (s)), .int (iI (z))] sh σ 0 0 ((k_pP sh R_setSizeNow) (m_setSizeNow σ s z)) := by
  refine k_C_of (ls0 := [(0, .ref 123), (1, .int (iI (s))), (2, .int (iI (z)))]) rfl pnX8 (fun v hv => k_cat1 rfl hv) (Nat.le_of_ble_eq_true rfl) rfl ?_
  obtain ⟨⟨t0, t0b⟩, ⟨t1, t1b⟩, ⟨t2, t2b⟩, ⟨t3, t3b⟩, -⟩ := id hMA.2.1
  obtain ⟨⟨f14_0, g14_0⟩, ⟨f14_1, g14_1⟩, ⟨f14_2, g14_2⟩, ⟨f14_3, g14_3⟩, ⟨f14_4, g14_4⟩, ⟨f14_5, g14_5⟩, ⟨f14_6, g14_6⟩, ⟨f14_7, g14_7⟩, ⟨f14_8, g14_8⟩, ⟨f14_9, g14_9⟩, ⟨f14_10, g14_10⟩, ⟨f14_11, g14_11⟩, ⟨f14_12, g14_12⟩, ⟨f14_13, g14_13⟩⟩ := id hMA.1
  unfold m_setSizeNow
  refine k_aload_n dX8_setSizeNow_0 0 rfl rfl (by decide) ?_
  refine k_iload_n dX8_setSizeNow_1 1 rfl rfl ?_
  refine k_callVr (st := []) (as := [.int (iI (s))]) dX8_setSizeNow_2 oX8_isSubject w_1900 w_1902 w_38 rfl (by omega) rfl (Nat.le_of_ble_eq_true rfl) (by decide) (s_123 hsh) rfl (c8_isSubject (σ := σ) hsh (hMA).2.1 ⟨by omega, by omega⟩) ?_
  refine k_if_ne (tgt := 14) dX8_setSizeNow_5 rfl (zb_kr _) (fun h2 => ?_) (fun h2 => ?_)
  · have h2 := zb_n0.mp h2
    refine k_ift (F := (k_pP sh R_setSizeNow)) h2 ?_
    refine k_iload_n dX8_setSizeNow_14 2 rfl rfl ?_
    refine k_iconst (v := 1) dX8_setSizeNow_15 rfl ?_
    refine k_bipush (v := 9) dX8_setSizeNow_16 (by decide) ?_
    refine k_callSr (st := []) (as := [.int (iI (z)), .int (iI (1)), .int (iI (9))]) dX8_setSizeNow_18 oX8_in w_1881 w_1882 rfl (by omega) rfl (Nat.le_of_ble_eq_true rfl) (c8_in ⟨by omega, by omega⟩ ⟨by omega, by omega⟩ ⟨by omega, by omega⟩) ?_
    refine k_if_ne (tgt := 30) dX8_setSizeNow_21 rfl (zb_kr _) (fun h4 => ?_) (fun h4 => ?_)
    · have h4 := zb_n0.mp h4
      refine k_ift (F := (k_pP sh R_setSizeNow)) h4 ?_
      refine k_iconst (v := 0) dX8_setSizeNow_30 rfl ?_
      refine k_istore_n (ls' := [(0, .ref 123), (1, .int (iI (s))), (2, .int (iI (z))), (3, .int (iI (0)))]) dX8_setSizeNow_31 rfl (by decide) rfl rfl ?_
      refine k_loopR (α := Unit) (P := fun (i32 : Nat) (x32 : Unit) Q => k_V E mX8_setSizeNow _ 32 [(0, .ref 123), (1, .int (iI (s))), (2, .int (iI (z))), (3, .int (iI ((i32 : Int))))] [] sh σ _ _ Q) (J := fun (i32 : Nat) (x32 : Unit) => True) (4) (b_setSizeNow_32 σ s z) () (F := fun t => (k_pP sh R_setSizeNow) (k_els (r_setSizeNow_32 σ s z) t)) (show True from True.intro) ?_ ?_
      · intro x32 hJ32
        show k_V E mX8_setSizeNow _ 32 [(0, .ref 123), (1, .int (iI (s))), (2, .int (iI (z))), (3, .int (iI (((4 : Nat) : Int))))] [] sh σ _ _ ((k_pP sh R_setSizeNow) ((r_setSizeNow_32 σ s z) x32))
        unfold r_setSizeNow_32
        refine k_iload_n dX8_setSizeNow_32 3 rfl rfl ?_
        refine k_iconst (v := 4) dX8_setSizeNow_33 rfl ?_
        refine k_icmp_ge (tgt := 59) dX8_setSizeNow_34 rfl ⟨by omega, by omega⟩ ⟨by decide, by decide⟩ (fun h6 => ?_) (fun h6 => absurd h6 (by omega))
        refine k_aload_n dX8_setSizeNow_59 0 rfl rfl (by decide) ?_
        refine k_get (kf := 0) (v := .ref 124) dX8_setSizeNow_60 kcX8 w_1747 (by decide) (by decide) (s_123 hsh) rfl rfl ?_
        refine k_bipush (v := 10) dX8_setSizeNow_63 (by decide) ?_
        refine k_iload_n dX8_setSizeNow_65 1 rfl rfl ?_
        refine k_iadd dX8_setSizeNow_66 ?_
        refine k_iald dX8_setSizeNow_67 (by decide) (s_124 hsh) (by omega) (by omega) (by decide) ?_
        have q7 := k_Mo_siz (hMA).2.1 (x := 10 + s) (by omega) (by omega)
        refine k_istore_n (ls' := [(0, .ref 123), (1, .int (iI (s))), (2, .int (iI (z))), (3, .int (iI ((σ 124) (10 + s).toNat)))]) dX8_setSizeNow_68 rfl (by decide) rfl rfl ?_
        refine k_aload_n dX8_setSizeNow_69 0 rfl rfl (by decide) ?_
        refine k_get (kf := 0) (v := .ref 124) dX8_setSizeNow_70 kcX8 w_1747 (by decide) (by decide) (s_123 hsh) rfl rfl ?_
        refine k_bipush (v := 10) dX8_setSizeNow_73 (by decide) ?_
        refine k_iload_n dX8_setSizeNow_75 1 rfl rfl ?_
        refine k_iadd dX8_setSizeNow_76 ?_
        refine k_iload_n dX8_setSizeNow_77 2 rfl rfl ?_
        refine k_iastW dX8_setSizeNow_78 (by decide) (s_124 hsh) (by omega) (by omega) (by decide) ?_
        refine k_eqσ (σ' := (k_up σ 124 (k_u1 (σ 124) (10 + s).toNat (z)))) rfl ?_
        refine k_iload_n dX8_setSizeNow_79 3 rfl rfl ?_
        exact k_retiP dX8_setSizeNow_80 rfl rfl rfl (show (-1 ≤ (σ 124) (10 + s).toNat ∧ (σ 124) (10 + s).toNat ≤ 1000) ∧ k_MA (k_up σ 124 (k_u1 (σ 124) (10 + s).toNat (z))) from ⟨by omega, ⟨(hMA).1, (show k_Mo (k_u1 (σ 124) (10 + s).toNat (z)) from (k_Mo_u (hMA).2.1 (by omega))), (hMA).2.2.1, (hMA).2.2.2.1, (hMA).2.2.2.2.1, (hMA).2.2.2.2.2.1, (hMA).2.2.2.2.2.2.1, (hMA).2.2.2.2.2.2.2.1, (hMA).2.2.2.2.2.2.2.2.1, (hMA).2.2.2.2.2.2.2.2.2.1, (hMA).2.2.2.2.2.2.2.2.2.2.1, (hMA).2.2.2.2.2.2.2.2.2.2.2.1, (hMA).2.2.2.2.2.2.2.2.2.2.2.2⟩⟩)
      · intro n32 i32 x32 hi32 hJ32 ih32
        show k_V E mX8_setSizeNow _ 32 [(0, .ref 123), (1, .int (iI (s))), (2, .int (iI (z))), (3, .int (iI ((i32 : Int))))] [] sh σ _ _ ((fun t => (k_pP sh R_setSizeNow) (k_els (r_setSizeNow_32 σ s z) (k_cn2 (k_for (b_setSizeNow_32 σ s z) n32 (i32 + 1)) t))) ((b_setSizeNow_32 σ s z) i32 x32))
        unfold b_setSizeNow_32
        refine k_iload_n dX8_setSizeNow_32 3 rfl rfl ?_
        refine k_iconst (v := 4) dX8_setSizeNow_33 rfl ?_
        refine k_icmp_ge (tgt := 59) dX8_setSizeNow_34 rfl ⟨by omega, by omega⟩ ⟨by decide, by decide⟩ (fun h8 => absurd h8 (by omega)) (fun h8 => ?_)
        refine k_aload_n dX8_setSizeNow_37 0 rfl rfl (by decide) ?_
        refine k_iload_n dX8_setSizeNow_38 1 rfl rfl ?_
        refine k_iload_n dX8_setSizeNow_39 3 rfl rfl ?_
        refine k_callVrP (st := []) (as := [.int (iI (s)), .int (iI ((i32 : Int)))]) dX8_setSizeNow_40 oX8_inClass w_1904 w_1906 w_39 rfl (by omega) rfl (Nat.le_of_ble_eq_true rfl) (by decide) (s_123 hsh) rfl (c8_inClass hsh (hMA).2.1 (by omega) (by omega)) (fun z9 => ?_)
        have z9 : 0 ≤ m_inClass (σ 124) s (i32 : Int) ∧ m_inClass (σ 124) s (i32 : Int) ≤ 12 := z9
        refine k_iload_n dX8_setSizeNow_43 2 rfl rfl ?_
        refine k_icmp_le (tgt := 53) dX8_setSizeNow_44 rfl ⟨by omega, by omega⟩ ⟨by omega, by omega⟩ (fun h10 => ?_) (fun h10 => ?_)
        · refine k_ift (F := (fun t => (k_pP sh R_setSizeNow) (k_els (r_setSizeNow_32 σ s z) (k_cn2 (k_for (b_setSizeNow_32 σ s z) n32 (i32 + 1)) t)))) h10 ?_
          refine k_iinc (ls' := [(0, .ref 123), (1, .int (iI (s))), (2, .int (iI (z))), (3, .int (iI ((i32 : Int) + 1)))]) dX8_setSizeNow_53 3 rfl (by decide) rfl rfl ?_
          refine k_goto (tgt := 32) dX8_setSizeNow_56 rfl ?_
          exact ih32 (()) (show True from True.intro)
        · refine k_iff (F := (fun t => (k_pP sh R_setSizeNow) (k_els (r_setSizeNow_32 σ s z) (k_cn2 (k_for (b_setSizeNow_32 σ s z) n32 (i32 + 1)) t)))) (Int.not_le.mpr h10) ?_
          refine k_aload_n dX8_setSizeNow_47 0 rfl rfl (by decide) ?_
          refine k_iconst (v := 3) dX8_setSizeNow_48 rfl ?_
          refine k_callVr (st := []) (as := [.int (iI (3))]) dX8_setSizeNow_49 oX8_bad w_1884 w_1886 w_35 rfl (by omega) rfl (Nat.le_of_ble_eq_true rfl) (by decide) (s_123 hsh) rfl (c8_bad hsh) ?_
          refine k_eqσ (σ' := (k_up σ 123 (k_u1 (σ 123) 8 (3)))) ((show k_up σ 123 (k_u1 (σ 123) 8 (3)) = (k_up σ 123 (k_u1 (σ 123) 8 (3))) from rfl)).symm ?_
          exact k_retiP dX8_setSizeNow_52 rfl rfl rfl (show (-1 ≤ (0 : Int) ∧ (0 : Int) ≤ 1000) ∧ k_MA (k_up σ 123 (k_u1 (σ 123) 8 (3))) from ⟨by omega, ⟨(show k_F0 (k_u1 (σ 123) 8 (3)) from (k_F0_u (hMA).1 (by omega))), (hMA).2.1, (hMA).2.2.1, (hMA).2.2.2.1, (hMA).2.2.2.2.1, (hMA).2.2.2.2.2.1, (hMA).2.2.2.2.2.2.1, (hMA).2.2.2.2.2.2.2.1, (hMA).2.2.2.2.2.2.2.2.1, (hMA).2.2.2.2.2.2.2.2.2.1, (hMA).2.2.2.2.2.2.2.2.2.2.1, (hMA).2.2.2.2.2.2.2.2.2.2.2.1, (hMA).2.2.2.2.2.2.2.2.2.2.2.2⟩⟩)
    · have h4 := zb_0.mp h4
      refine k_iff (F := (k_pP sh R_setSizeNow)) h4 ?_
      refine k_aload_n dX8_setSizeNow_24 0 rfl rfl (by decide) ?_
      refine k_iconst (v := 2) dX8_setSizeNow_25 rfl ?_
      refine k_callVr (st := []) (as := [.int (iI (2))]) dX8_setSizeNow_26 oX8_bad w_1884 w_1886 w_35 rfl (by omega) rfl (Nat.le_of_ble_eq_true rfl) (by decide) (s_123 hsh) rfl (c8_bad hsh) ?_
      refine k_eqσ (σ' := (k_up σ 123 (k_u1 (σ 123) 8 (2)))) ((show k_up σ 123 (k_u1 (σ 123) 8 (2)) = (k_up σ 123 (k_u1 (σ 123) 8 (2))) from rfl)).symm ?_
      exact k_retiP dX8_setSizeNow_29 rfl rfl rfl (show (-1 ≤ (0 : Int) ∧ (0 : Int) ≤ 1000) ∧ k_MA (k_up σ 123 (k_u1 (σ 123) 8 (2))) from ⟨by omega, ⟨(show k_F0 (k_u1 (σ 123) 8 (2)) from (k_F0_u (hMA).1 (by omega))), (hMA).2.1, (hMA).2.2.1, (hMA).2.2.2.1, (hMA).2.2.2.2.1, (hMA).2.2.2.2.2.1, (hMA).2.2.2.2.2.2.1, (hMA).2.2.2.2.2.2.2.1, (hMA).2.2.2.2.2.2.2.2.1, (hMA).2.2.2.2.2.2.2.2.2.1, (hMA).2.2.2.2.2.2.2.2.2.2.1, (hMA).2.2.2.2.2.2.2.2.2.2.2.1, (hMA).2.2.2.2.2.2.2.2.2.2.2.2⟩⟩)
  · have h2 := zb_0.mp h2
    refine k_iff (F := (k_pP sh R_setSizeNow)) h2 ?_
    refine k_aload_n dX8_setSizeNow_8 0 rfl rfl (by decide) ?_
    refine k_iconst (v := 1) dX8_setSizeNow_9 rfl ?_
    refine k_callVr (st := []) (as := [.int (iI (1))]) dX8_setSizeNow_10 oX8_bad w_1884 w_1886 w_35 rfl (by omega) rfl (Nat.le_of_ble_eq_true rfl) (by decide) (s_123 hsh) rfl (c8_bad hsh) ?_
    refine k_eqσ (σ' := (k_up σ 123 (k_u1 (σ 123) 8 (1)))) ((show k_up σ 123 (k_u1 (σ 123) 8 (1)) = (k_up σ 123 (k_u1 (σ 123) 8 (1))) from rfl)).symm ?_
    exact k_retiP dX8_setSizeNow_13 rfl rfl rfl (show (-1 ≤ (0 : Int) ∧ (0 : Int) ≤ 1000) ∧ k_MA (k_up σ 123 (k_u1 (σ 123) 8 (1))) from ⟨by omega, ⟨(show k_F0 (k_u1 (σ 123) 8 (1)) from (k_F0_u (hMA).1 (by omega))), (hMA).2.1, (hMA).2.2.1, (hMA).2.2.2.1, (hMA).2.2.2.2.1, (hMA).2.2.2.2.2.1, (hMA).2.2.2.2.2.2.1, (hMA).2.2.2.2.2.2.2.1, (hMA).2.2.2.2.2.2.2.2.1, (hMA).2.2.2.2.2.2.2.2.2.1, (hMA).2.2.2.2.2.2.2.2.2.2.1, (hMA).2.2.2.2.2.2.2.2.2.2.2.1, (hMA).2.2.2.2.2.2.2.2.2.2.2.2⟩⟩)
abbrev R_setBlockCountNow (t : Int × (Nat → Nat → Int)) : Prop := (-1 ≤ t.1 ∧ t.1 ≤ 1000) ∧ k_MA t.2
def r_setBlockCountNow_17 (σ : Nat → Nat → Int) (c : Int) (x17 : Unit) : Int × (Nat → Nat → Int) := ((σ 124) 1, (k_up σ 124 (k_u1 (σ 124) 1 (c))))
def r_setBlockCountNow_29 (σ : Nat → Nat → Int) (c : Int) (i17 : Nat) (x17 : Unit) (x29 : Unit) : (Int × (Nat → Nat → Int)) ⊕ (Unit) := .inr (())
def b_setBlockCountNow_29 (σ : Nat → Nat → Int) (c : Int) (i17 : Nat) (x17 : Unit) (i29 : Nat) (x29 : Unit) : ((Int × (Nat → Nat → Int)) ⊕ (Unit)) ⊕ (Unit) := if (σ 124) (17 + 4 * (i17 : Int) + (c + (i29 : Int))).toNat = 1 then .inl (.inl ((0, (k_up σ 123 (k_u1 (σ 123) 8 (3)))))) else .inr (())
def b_setBlockCountNow_17 (σ : Nat → Nat → Int) (c : Int) (i17 : Nat) (x17 : Unit) : (Int × (Nat → Nat → Int)) ⊕ (Unit) := k_els (r_setBlockCountNow_29 σ c i17 x17) (k_for (b_setBlockCountNow_29 σ c i17 x17) ((4 - c).toNat) 0 ())
def m_setBlockCountNow (σ : Nat → Nat → Int) (c : Int) : Int × (Nat → Nat → Int) := if 1 ≤ c ∧ c ≤ 4 then k_els (r_setBlockCountNow_17 σ c) (k_for (b_setBlockCountNow_17 σ c) (((σ 124) 0).toNat) 0 ()) else (0, (k_up σ 123 (k_u1 (σ 123) 8 (2))))
set_option maxRecDepth 100000 in
set_option maxHeartbeats 4000000 in
theorem c8_setBlockCountNow (hsh : k_Main sh) (hMA : k_MA σ) {c : Int} (h_c : -2147483648 ≤ c ∧ c < 2147483648) : k_C E mX8_setBlockCountNow 3 [.ref 123, .int (iI (c))] sh σ 0 0 ((k_pP sh R_setBlockCountNow) (m_setBlockCountNow σ c)) := by
  refine k_C_of (ls0 := [(0, .ref 123), (1, .int (iI (c)))]) rfl pnX8 (fun v hv => k_cat1 rfl hv) (Nat.le_of_ble_eq_true rfl) rfl ?_
  obtain ⟨⟨t0, t0b⟩, ⟨t1, t1b⟩, ⟨t2, t2b⟩, ⟨t3, t3b⟩, -⟩ := id hMA.2.1
  obtain ⟨⟨f13_0, g13_0⟩, ⟨f13_1, g13_1⟩, ⟨f13_2, g13_2⟩, ⟨f13_3, g13_3⟩, ⟨f13_4, g13_4⟩, ⟨f13_5, g13_5⟩, ⟨f13_6, g13_6⟩, ⟨f13_7, g13_7⟩, ⟨f13_8, g13_8⟩, ⟨f13_9, g13_9⟩, ⟨f13_10, g13_10⟩, ⟨f13_11, g13_11⟩, ⟨f13_12, g13_12⟩, ⟨f13_13, g13_13⟩⟩ := id hMA.1
  unfold m_setBlockCountNow
  refine k_iload_n dX8_setBlockCountNow_0 1 rfl rfl ?_
  refine k_iconst (v := 1) dX8_setBlockCountNow_1 rfl ?_
  refine k_iconst (v := 4) dX8_setBlockCountNow_2 rfl ?_
  refine k_callSr (st := []) (as := [.int (iI (c)), .int (iI (1)), .int (iI (4))]) dX8_setBlockCountNow_3 oX8_in w_1881 w_1882 rfl (by omega) rfl (Nat.le_of_ble_eq_true rfl) (c8_in ⟨by omega, by omega⟩ ⟨by omega, by omega⟩ ⟨by omega, by omega⟩) ?_
  refine k_if_ne (tgt := 15) dX8_setBlockCountNow_6 rfl (zb_kr _) (fun h2 => ?_) (fun h2 => ?_)
  · have h2 := zb_n0.mp h2
    refine k_ift (F := (k_pP sh R_setBlockCountNow)) h2 ?_
    refine k_iconst (v := 0) dX8_setBlockCountNow_15 rfl ?_
    refine k_istore_n (ls' := [(0, .ref 123), (1, .int (iI (c))), (2, .int (iI (0)))]) dX8_setBlockCountNow_16 rfl (by decide) rfl rfl ?_
    refine k_loopR (α := Unit) (P := fun (i17 : Nat) (x17 : Unit) Q => k_V E mX8_setBlockCountNow _ 17 [(0, .ref 123), (1, .int (iI (c))), (2, .int (iI ((i17 : Int))))] [] sh σ _ _ Q) (J := fun (i17 : Nat) (x17 : Unit) => True) (((σ 124) 0).toNat) (b_setBlockCountNow_17 σ c) () (F := fun t => (k_pP sh R_setBlockCountNow) (k_els (r_setBlockCountNow_17 σ c) t)) (show True from True.intro) ?_ ?_
    · intro x17 hJ17
      show k_V E mX8_setBlockCountNow _ 17 [(0, .ref 123), (1, .int (iI (c))), (2, .int (iI (((((σ 124) 0).toNat : Nat) : Int))))] [] sh σ _ _ ((k_pP sh R_setBlockCountNow) ((r_setBlockCountNow_17 σ c) x17))
      unfold r_setBlockCountNow_17
      refine k_iload_n dX8_setBlockCountNow_17 2 rfl rfl ?_
      refine k_aload_n dX8_setBlockCountNow_18 0 rfl rfl (by decide) ?_
      refine k_get (kf := 0) (v := .ref 124) dX8_setBlockCountNow_19 kcX8 w_1747 (by decide) (by decide) (s_123 hsh) rfl rfl ?_
      refine k_iconst (v := 0) dX8_setBlockCountNow_22 rfl ?_
      refine k_iald dX8_setBlockCountNow_23 (by decide) (s_124 hsh) (by omega) (by omega) (by decide) ?_
      refine k_eqst (st' := [.int (iI ((σ 124) 0)), .int (iI (((((σ 124) 0).toNat : Nat) : Int)))]) rfl ?_
      refine k_icmp_ge (tgt := 61) dX8_setBlockCountNow_24 rfl ⟨by omega, by omega⟩ ⟨by omega, by omega⟩ (fun h4 => ?_) (fun h4 => absurd h4 (by omega))
      refine k_aload_n dX8_setBlockCountNow_61 0 rfl rfl (by decide) ?_
      refine k_get (kf := 0) (v := .ref 124) dX8_setBlockCountNow_62 kcX8 w_1747 (by decide) (by decide) (s_123 hsh) rfl rfl ?_
      refine k_iconst (v := 1) dX8_setBlockCountNow_65 rfl ?_
      refine k_iald dX8_setBlockCountNow_66 (by decide) (s_124 hsh) (by omega) (by omega) (by decide) ?_
      refine k_eqst (st' := [.int (iI ((σ 124) 1))]) rfl ?_
      refine k_istore_n (ls' := [(0, .ref 123), (1, .int (iI (c))), (2, .int (iI ((σ 124) 1)))]) dX8_setBlockCountNow_67 rfl (by decide) rfl rfl ?_
      refine k_aload_n dX8_setBlockCountNow_68 0 rfl rfl (by decide) ?_
      refine k_get (kf := 0) (v := .ref 124) dX8_setBlockCountNow_69 kcX8 w_1747 (by decide) (by decide) (s_123 hsh) rfl rfl ?_
      refine k_iconst (v := 1) dX8_setBlockCountNow_72 rfl ?_
      refine k_iload_n dX8_setBlockCountNow_73 1 rfl rfl ?_
      refine k_iastW dX8_setBlockCountNow_74 (by decide) (s_124 hsh) (by omega) (by omega) (by decide) ?_
      refine k_eqσ (σ' := (k_up σ 124 (k_u1 (σ 124) 1 (c)))) rfl ?_
      refine k_iload_n dX8_setBlockCountNow_75 2 rfl rfl ?_
      exact k_retiP dX8_setBlockCountNow_76 rfl rfl rfl (show (-1 ≤ (σ 124) 1 ∧ (σ 124) 1 ≤ 1000) ∧ k_MA (k_up σ 124 (k_u1 (σ 124) 1 (c))) from ⟨by omega, ⟨(hMA).1, (show k_Mo (k_u1 (σ 124) 1 (c)) from (k_Mo_u (hMA).2.1 (by omega))), (hMA).2.2.1, (hMA).2.2.2.1, (hMA).2.2.2.2.1, (hMA).2.2.2.2.2.1, (hMA).2.2.2.2.2.2.1, (hMA).2.2.2.2.2.2.2.1, (hMA).2.2.2.2.2.2.2.2.1, (hMA).2.2.2.2.2.2.2.2.2.1, (hMA).2.2.2.2.2.2.2.2.2.2.1, (hMA).2.2.2.2.2.2.2.2.2.2.2.1, (hMA).2.2.2.2.2.2.2.2.2.2.2.2⟩⟩)
    · intro n17 i17 x17 hi17 hJ17 ih17
      show k_V E mX8_setBlockCountNow _ 17 [(0, .ref 123), (1, .int (iI (c))), (2, .int (iI ((i17 : Int))))] [] sh σ _ _ ((fun t => (k_pP sh R_setBlockCountNow) (k_els (r_setBlockCountNow_17 σ c) (k_cn2 (k_for (b_setBlockCountNow_17 σ c) n17 (i17 + 1)) t))) ((b_setBlockCountNow_17 σ c) i17 x17))
      unfold b_setBlockCountNow_17
      refine k_iload_n dX8_setBlockCountNow_17 2 rfl rfl ?_
      refine k_aload_n dX8_setBlockCountNow_18 0 rfl rfl (by decide) ?_
      refine k_get (kf := 0) (v := .ref 124) dX8_setBlockCountNow_19 kcX8 w_1747 (by decide) (by decide) (s_123 hsh) rfl rfl ?_
      refine k_iconst (v := 0) dX8_setBlockCountNow_22 rfl ?_
      refine k_iald dX8_setBlockCountNow_23 (by decide) (s_124 hsh) (by omega) (by omega) (by decide) ?_
      refine k_eqst (st' := [.int (iI ((σ 124) 0)), .int (iI ((i17 : Int)))]) rfl ?_
      refine k_icmp_ge (tgt := 61) dX8_setBlockCountNow_24 rfl ⟨by omega, by omega⟩ ⟨by omega, by omega⟩ (fun h5 => absurd h5 (by omega)) (fun h5 => ?_)
      refine k_iload_n dX8_setBlockCountNow_27 1 rfl rfl ?_
      refine k_istore_n (ls' := [(0, .ref 123), (1, .int (iI (c))), (2, .int (iI ((i17 : Int)))), (3, .int (iI (c)))]) dX8_setBlockCountNow_28 rfl (by decide) rfl rfl ?_
      refine k_lrw (q := 3) (j := 3) (a' := c + ((0 : Nat) : Int)) (ls' := [(0, .ref 123), (1, .int (iI (c))), (2, .int (iI ((i17 : Int)))), (3, .int (iI (c + ((0 : Nat) : Int))))]) rfl (by omega) rfl ?_
      refine k_loopR (α := Unit) (P := fun (i29 : Nat) (x29 : Unit) Q => k_V E mX8_setBlockCountNow _ 29 [(0, .ref 123), (1, .int (iI (c))), (2, .int (iI ((i17 : Int)))), (3, .int (iI (c + (i29 : Int))))] [] sh σ _ _ Q) (J := fun (i29 : Nat) (x29 : Unit) => True) ((4 - c).toNat) (b_setBlockCountNow_29 σ c i17 x17) () (F := fun t => (fun t => (k_pP sh R_setBlockCountNow) (k_els (r_setBlockCountNow_17 σ c) (k_cn2 (k_for (b_setBlockCountNow_17 σ c) n17 (i17 + 1)) t))) (k_els (r_setBlockCountNow_29 σ c i17 x17) t)) (show True from True.intro) ?_ ?_
      · intro x29 hJ29
        show k_V E mX8_setBlockCountNow _ 29 [(0, .ref 123), (1, .int (iI (c))), (2, .int (iI ((i17 : Int)))), (3, .int (iI (c + (((4 - c).toNat : Nat) : Int))))] [] sh σ _ _ ((fun t => (k_pP sh R_setBlockCountNow) (k_els (r_setBlockCountNow_17 σ c) (k_cn2 (k_for (b_setBlockCountNow_17 σ c) n17 (i17 + 1)) t))) ((r_setBlockCountNow_29 σ c i17 x17) x29))
        unfold r_setBlockCountNow_29
        refine k_iload_n dX8_setBlockCountNow_29 3 rfl rfl ?_
        refine k_iconst (v := 4) dX8_setBlockCountNow_30 rfl ?_
        refine k_icmp_ge (tgt := 55) dX8_setBlockCountNow_31 rfl ⟨by omega, by omega⟩ ⟨by decide, by decide⟩ (fun h7 => ?_) (fun h7 => absurd h7 (by omega))
        refine k_iinc (ls' := [(0, .ref 123), (1, .int (iI (c))), (2, .int (iI ((i17 : Int) + 1))), (3, .int (iI (c + (((4 - c).toNat : Nat) : Int))))]) dX8_setBlockCountNow_55 2 rfl (by decide) rfl rfl ?_
        refine k_goto (tgt := 17) dX8_setBlockCountNow_58 rfl ?_
        refine k_dropr (ls' := [(0, .ref 123), (1, .int (iI (c))), (2, .int (iI ((i17 : Int) + 1)))]) (ex := [(3, .int (iI (c + (((4 - c).toNat : Nat) : Int))))]) rfl ?_
        exact ih17 (()) (show True from True.intro)
      · intro n29 i29 x29 hi29 hJ29 ih29
        show k_V E mX8_setBlockCountNow _ 29 [(0, .ref 123), (1, .int (iI (c))), (2, .int (iI ((i17 : Int)))), (3, .int (iI (c + (i29 : Int))))] [] sh σ _ _ ((fun t => (fun t => (k_pP sh R_setBlockCountNow) (k_els (r_setBlockCountNow_17 σ c) (k_cn2 (k_for (b_setBlockCountNow_17 σ c) n17 (i17 + 1)) t))) (k_els (r_setBlockCountNow_29 σ c i17 x17) (k_cn2 (k_for (b_setBlockCountNow_29 σ c i17 x17) n29 (i29 + 1)) t))) ((b_setBlockCountNow_29 σ c i17 x17) i29 x29))
        unfold b_setBlockCountNow_29
        refine k_iload_n dX8_setBlockCountNow_29 3 rfl rfl ?_
        refine k_iconst (v := 4) dX8_setBlockCountNow_30 rfl ?_
        refine k_icmp_ge (tgt := 55) dX8_setBlockCountNow_31 rfl ⟨by omega, by omega⟩ ⟨by decide, by decide⟩ (fun h8 => absurd h8 (by omega)) (fun h8 => ?_)
        refine k_aload_n dX8_setBlockCountNow_34 0 rfl rfl (by decide) ?_
        refine k_iload_n dX8_setBlockCountNow_35 2 rfl rfl ?_
        refine k_iload_n dX8_setBlockCountNow_36 3 rfl rfl ?_
        refine k_callVr (st := []) (as := [.int (iI ((i17 : Int))), .int (iI (c + (i29 : Int)))]) dX8_setBlockCountNow_37 oX8_hasOpen w_1928 w_1930 w_42 rfl (by omega) rfl (Nat.le_of_ble_eq_true rfl) (by decide) (s_123 hsh) rfl (c8_hasOpen (σ := σ) hsh (hMA).2.1 (by omega) (by omega)) ?_
        refine k_if_eq (tgt := 49) dX8_setBlockCountNow_40 rfl (zb_kr _) (fun h10 => ?_) (fun h10 => ?_)
        · have h10 := zb_0.mp h10
          refine k_iff (F := (fun t => (fun t => (k_pP sh R_setBlockCountNow) (k_els (r_setBlockCountNow_17 σ c) (k_cn2 (k_for (b_setBlockCountNow_17 σ c) n17 (i17 + 1)) t))) (k_els (r_setBlockCountNow_29 σ c i17 x17) (k_cn2 (k_for (b_setBlockCountNow_29 σ c i17 x17) n29 (i29 + 1)) t)))) h10 ?_
          refine k_iinc (ls' := [(0, .ref 123), (1, .int (iI (c))), (2, .int (iI ((i17 : Int)))), (3, .int (iI (c + (i29 : Int) + 1)))]) dX8_setBlockCountNow_49 3 rfl (by decide) rfl rfl ?_
          refine k_goto (tgt := 29) dX8_setBlockCountNow_52 rfl ?_
          refine k_lrw (q := 3) (j := 3) (a' := c + ((i29 + 1 : Nat) : Int)) (ls' := [(0, .ref 123), (1, .int (iI (c))), (2, .int (iI ((i17 : Int)))), (3, .int (iI (c + ((i29 + 1 : Nat) : Int))))]) rfl (by omega) rfl ?_
          exact ih29 (()) (show True from True.intro)
        · have h10 := zb_n0.mp h10
          refine k_ift (F := (fun t => (fun t => (k_pP sh R_setBlockCountNow) (k_els (r_setBlockCountNow_17 σ c) (k_cn2 (k_for (b_setBlockCountNow_17 σ c) n17 (i17 + 1)) t))) (k_els (r_setBlockCountNow_29 σ c i17 x17) (k_cn2 (k_for (b_setBlockCountNow_29 σ c i17 x17) n29 (i29 + 1)) t)))) h10 ?_
          refine k_aload_n dX8_setBlockCountNow_43 0 rfl rfl (by decide) ?_
          refine k_iconst (v := 3) dX8_setBlockCountNow_44 rfl ?_
          refine k_callVr (st := []) (as := [.int (iI (3))]) dX8_setBlockCountNow_45 oX8_bad w_1884 w_1886 w_35 rfl (by omega) rfl (Nat.le_of_ble_eq_true rfl) (by decide) (s_123 hsh) rfl (c8_bad hsh) ?_
          refine k_eqσ (σ' := (k_up σ 123 (k_u1 (σ 123) 8 (3)))) ((show k_up σ 123 (k_u1 (σ 123) 8 (3)) = (k_up σ 123 (k_u1 (σ 123) 8 (3))) from rfl)).symm ?_
          exact k_retiP dX8_setBlockCountNow_48 rfl rfl rfl (show (-1 ≤ (0 : Int) ∧ (0 : Int) ≤ 1000) ∧ k_MA (k_up σ 123 (k_u1 (σ 123) 8 (3))) from ⟨by omega, ⟨(show k_F0 (k_u1 (σ 123) 8 (3)) from (k_F0_u (hMA).1 (by omega))), (hMA).2.1, (hMA).2.2.1, (hMA).2.2.2.1, (hMA).2.2.2.2.1, (hMA).2.2.2.2.2.1, (hMA).2.2.2.2.2.2.1, (hMA).2.2.2.2.2.2.2.1, (hMA).2.2.2.2.2.2.2.2.1, (hMA).2.2.2.2.2.2.2.2.2.1, (hMA).2.2.2.2.2.2.2.2.2.2.1, (hMA).2.2.2.2.2.2.2.2.2.2.2.1, (hMA).2.2.2.2.2.2.2.2.2.2.2.2⟩⟩)
  · have h2 := zb_0.mp h2
    refine k_iff (F := (k_pP sh R_setBlockCountNow)) h2 ?_
    refine k_aload_n dX8_setBlockCountNow_9 0 rfl rfl (by decide) ?_
    refine k_iconst (v := 2) dX8_setBlockCountNow_10 rfl ?_
    refine k_callVr (st := []) (as := [.int (iI (2))]) dX8_setBlockCountNow_11 oX8_bad w_1884 w_1886 w_35 rfl (by omega) rfl (Nat.le_of_ble_eq_true rfl) (by decide) (s_123 hsh) rfl (c8_bad hsh) ?_
    refine k_eqσ (σ' := (k_up σ 123 (k_u1 (σ 123) 8 (2)))) ((show k_up σ 123 (k_u1 (σ 123) 8 (2)) = (k_up σ 123 (k_u1 (σ 123) 8 (2))) from rfl)).symm ?_
    exact k_retiP dX8_setBlockCountNow_14 rfl rfl rfl (show (-1 ≤ (0 : Int) ∧ (0 : Int) ≤ 1000) ∧ k_MA (k_up σ 123 (k_u1 (σ 123) 8 (2))) from ⟨by omega, ⟨(show k_F0 (k_u1 (σ 123) 8 (2)) from (k_F0_u (hMA).1 (by omega))), (hMA).2.1, (hMA).2.2.1, (hMA).2.2.2.1, (hMA).2.2.2.2.1, (hMA).2.2.2.2.2.1, (hMA).2.2.2.2.2.2.1, (hMA).2.2.2.2.2.2.2.1, (hMA).2.2.2.2.2.2.2.2.1, (hMA).2.2.2.2.2.2.2.2.2.1, (hMA).2.2.2.2.2.2.2.2.2.2.1, (hMA).2.2.2.2.2.2.2.2.2.2.2.1, (hMA).2.2.2.2.2.2.2.2.2.2.2.2⟩⟩)
abbrev R_openClassNow (t : Int × (Nat → Nat → Int)) : Prop := (-1 ≤ t.1 ∧ t.1 ≤ 1000) ∧ k_MA t.2
def m_openClassNow (σ : Nat → Nat → Int) (s : Int) (b : Int) : Int × (Nat → Nat → Int) := if 0 ≤ s ∧ s < (σ 124) 0 then if 0 ≤ b ∧ b < (σ 124) 1 then if (σ 124) (17 + 4 * s + b).toNat = 1 then (0, (k_up σ 123 (k_u1 (σ 123) 8 (3)))) else (m_openOf (k_u1 (σ 124) ((17 + (4 * s)) + b).toNat (1)) s, (k_up σ 124 (k_u1 (σ 124) ((17 + (4 * s)) + b).toNat (1)))) else (0, (k_up σ 123 (k_u1 (σ 123) 8 (1)))) else (0, (k_up σ 123 (k_u1 (σ 123) 8 (1))))
set_option maxRecDepth 100000 in
set_option maxHeartbeats 4000000 in
theorem c8_openClassNow (hsh : k_Main sh) (hMA : k_MA σ) {s b : Int} (h_s : -2147483648 ≤ s ∧ s < 2147483648) (h_b : -2147483648 ≤ b ∧ b < 2147483648) : k_C E mX8_openClassNow 4 [.ref 123, .int (iI (s)), .int (iI (b))] sh σ 0 0 ((k_pP sh R_openClassNow) (m_openClassNow σ s b)) := by
  refine k_C_of (ls0 := [(0, .ref 123), (1, .int (iI (s))), (2, .int (iI (b)))]) rfl pnX8 (fun v hv => k_cat1 rfl hv) (Nat.le_of_ble_eq_true rfl) rfl ?_
  obtain ⟨⟨t0, t0b⟩, ⟨t1, t1b⟩, ⟨t2, t2b⟩, ⟨t3, t3b⟩, -⟩ := id hMA.2.1
  obtain ⟨⟨f11_0, g11_0⟩, ⟨f11_1, g11_1⟩, ⟨f11_2, g11_2⟩, ⟨f11_3, g11_3⟩, ⟨f11_4, g11_4⟩, ⟨f11_5, g11_5⟩, ⟨f11_6, g11_6⟩, ⟨f11_7, g11_7⟩, ⟨f11_8, g11_8⟩, ⟨f11_9, g11_9⟩, ⟨f11_10, g11_10⟩, ⟨f11_11, g11_11⟩, ⟨f11_12, g11_12⟩, ⟨f11_13, g11_13⟩⟩ := id hMA.1
  unfold m_openClassNow
  refine k_aload_n dX8_openClassNow_0 0 rfl rfl (by decide) ?_
  refine k_iload_n dX8_openClassNow_1 1 rfl rfl ?_
  refine k_callVr (st := []) (as := [.int (iI (s))]) dX8_openClassNow_2 oX8_isSubject w_1900 w_1902 w_38 rfl (by omega) rfl (Nat.le_of_ble_eq_true rfl) (by decide) (s_123 hsh) rfl (c8_isSubject (σ := σ) hsh (hMA).2.1 ⟨by omega, by omega⟩) ?_
  refine k_if_eq (tgt := 16) dX8_openClassNow_5 rfl (zb_kr _) (fun h2 => ?_) (fun h2 => ?_)
  · have h2 := zb_0.mp h2
    refine k_iff (F := (k_pP sh R_openClassNow)) h2 ?_
    refine k_aload_n dX8_openClassNow_16 0 rfl rfl (by decide) ?_
    refine k_iconst (v := 1) dX8_openClassNow_17 rfl ?_
    refine k_callVr (st := []) (as := [.int (iI (1))]) dX8_openClassNow_18 oX8_bad w_1884 w_1886 w_35 rfl (by omega) rfl (Nat.le_of_ble_eq_true rfl) (by decide) (s_123 hsh) rfl (c8_bad hsh) ?_
    refine k_eqσ (σ' := (k_up σ 123 (k_u1 (σ 123) 8 (1)))) ((show k_up σ 123 (k_u1 (σ 123) 8 (1)) = (k_up σ 123 (k_u1 (σ 123) 8 (1))) from rfl)).symm ?_
    exact k_retiP dX8_openClassNow_21 rfl rfl rfl (show (-1 ≤ (0 : Int) ∧ (0 : Int) ≤ 1000) ∧ k_MA (k_up σ 123 (k_u1 (σ 123) 8 (1))) from ⟨by omega, ⟨(show k_F0 (k_u1 (σ 123) 8 (1)) from (k_F0_u (hMA).1 (by omega))), (hMA).2.1, (hMA).2.2.1, (hMA).2.2.2.1, (hMA).2.2.2.2.1, (hMA).2.2.2.2.2.1, (hMA).2.2.2.2.2.2.1, (hMA).2.2.2.2.2.2.2.1, (hMA).2.2.2.2.2.2.2.2.1, (hMA).2.2.2.2.2.2.2.2.2.1, (hMA).2.2.2.2.2.2.2.2.2.2.1, (hMA).2.2.2.2.2.2.2.2.2.2.2.1, (hMA).2.2.2.2.2.2.2.2.2.2.2.2⟩⟩)
  · have h2 := zb_n0.mp h2
    refine k_ift (F := (k_pP sh R_openClassNow)) h2 ?_
    refine k_aload_n dX8_openClassNow_8 0 rfl rfl (by decide) ?_
    refine k_iload_n dX8_openClassNow_9 2 rfl rfl ?_
    refine k_callVr (st := []) (as := [.int (iI (b))]) dX8_openClassNow_10 oX8_isBlock w_1944 w_1946 w_44 rfl (by omega) rfl (Nat.le_of_ble_eq_true rfl) (by decide) (s_123 hsh) rfl (c8_isBlock (σ := σ) hsh (hMA).2.1 ⟨by omega, by omega⟩) ?_
    refine k_if_ne (tgt := 22) dX8_openClassNow_13 rfl (zb_kr _) (fun h5 => ?_) (fun h5 => ?_)
    · have h5 := zb_n0.mp h5
      refine k_ift (F := (k_pP sh R_openClassNow)) h5 ?_
      refine k_aload_n dX8_openClassNow_22 0 rfl rfl (by decide) ?_
      refine k_iload_n dX8_openClassNow_23 1 rfl rfl ?_
      refine k_iload_n dX8_openClassNow_24 2 rfl rfl ?_
      refine k_callVr (st := []) (as := [.int (iI (s)), .int (iI (b))]) dX8_openClassNow_25 oX8_hasOpen w_1928 w_1930 w_42 rfl (by omega) rfl (Nat.le_of_ble_eq_true rfl) (by decide) (s_123 hsh) rfl (c8_hasOpen (σ := σ) hsh (hMA).2.1 (by omega) (by omega)) ?_
      refine k_if_eq (tgt := 37) dX8_openClassNow_28 rfl (zb_kr _) (fun h7 => ?_) (fun h7 => ?_)
      · have h7 := zb_0.mp h7
        refine k_iff (F := (k_pP sh R_openClassNow)) h7 ?_
        refine k_aload_n dX8_openClassNow_37 0 rfl rfl (by decide) ?_
        refine k_get (kf := 0) (v := .ref 124) dX8_openClassNow_38 kcX8 w_1747 (by decide) (by decide) (s_123 hsh) rfl rfl ?_
        refine k_bipush (v := 17) dX8_openClassNow_41 (by decide) ?_
        refine k_iconst (v := 4) dX8_openClassNow_43 rfl ?_
        refine k_iload_n dX8_openClassNow_44 1 rfl rfl ?_
        refine k_imul dX8_openClassNow_45 ?_
        refine k_iadd dX8_openClassNow_46 ?_
        refine k_iload_n dX8_openClassNow_47 2 rfl rfl ?_
        refine k_iadd dX8_openClassNow_48 ?_
        refine k_iconst (v := 1) dX8_openClassNow_49 rfl ?_
        refine k_iastW dX8_openClassNow_50 (by decide) (s_124 hsh) (by omega) (by omega) (by decide) ?_
        refine k_eqσ (σ' := (k_up σ 124 (k_u1 (σ 124) ((17 + (4 * s)) + b).toNat (1)))) rfl ?_
        refine k_aload_n dX8_openClassNow_51 0 rfl rfl (by decide) ?_
        refine k_iload_n dX8_openClassNow_52 1 rfl rfl ?_
        refine k_callVrP (st := []) (as := [.int (iI (s))]) dX8_openClassNow_53 oX8_openOf w_1948 w_1950 w_45 rfl (by omega) rfl (Nat.le_of_ble_eq_true rfl) (by decide) (s_123 hsh) rfl (c8_openOf (σ := (k_up σ 124 (k_u1 (σ 124) ((17 + (4 * s)) + b).toNat (1)))) hsh (show k_Mo (k_u1 (σ 124) ((17 + (4 * s)) + b).toNat (1)) from (k_Mo_u (hMA).2.1 (by omega))) (by omega)) (fun z8 => ?_)
        have z8 : 0 ≤ m_openOf (k_u1 (σ 124) ((17 + (4 * s)) + b).toNat (1)) s ∧ m_openOf (k_u1 (σ 124) ((17 + (4 * s)) + b).toNat (1)) s ≤ 4 := z8
        refine k_eqst (st' := [.int (iI (m_openOf (k_u1 (σ 124) ((17 + (4 * s)) + b).toNat (1)) s))]) rfl ?_
        exact k_retiP dX8_openClassNow_56 rfl rfl rfl (show (-1 ≤ m_openOf (k_u1 (σ 124) ((17 + (4 * s)) + b).toNat (1)) s ∧ m_openOf (k_u1 (σ 124) ((17 + (4 * s)) + b).toNat (1)) s ≤ 1000) ∧ k_MA (k_up σ 124 (k_u1 (σ 124) ((17 + (4 * s)) + b).toNat (1))) from ⟨by omega, ⟨(hMA).1, (show k_Mo (k_u1 (σ 124) ((17 + (4 * s)) + b).toNat (1)) from (k_Mo_u (hMA).2.1 (by omega))), (hMA).2.2.1, (hMA).2.2.2.1, (hMA).2.2.2.2.1, (hMA).2.2.2.2.2.1, (hMA).2.2.2.2.2.2.1, (hMA).2.2.2.2.2.2.2.1, (hMA).2.2.2.2.2.2.2.2.1, (hMA).2.2.2.2.2.2.2.2.2.1, (hMA).2.2.2.2.2.2.2.2.2.2.1, (hMA).2.2.2.2.2.2.2.2.2.2.2.1, (hMA).2.2.2.2.2.2.2.2.2.2.2.2⟩⟩)
      · have h7 := zb_n0.mp h7
        refine k_ift (F := (k_pP sh R_openClassNow)) h7 ?_
        refine k_aload_n dX8_openClassNow_31 0 rfl rfl (by decide) ?_
        refine k_iconst (v := 3) dX8_openClassNow_32 rfl ?_
        refine k_callVr (st := []) (as := [.int (iI (3))]) dX8_openClassNow_33 oX8_bad w_1884 w_1886 w_35 rfl (by omega) rfl (Nat.le_of_ble_eq_true rfl) (by decide) (s_123 hsh) rfl (c8_bad hsh) ?_
        refine k_eqσ (σ' := (k_up σ 123 (k_u1 (σ 123) 8 (3)))) ((show k_up σ 123 (k_u1 (σ 123) 8 (3)) = (k_up σ 123 (k_u1 (σ 123) 8 (3))) from rfl)).symm ?_
        exact k_retiP dX8_openClassNow_36 rfl rfl rfl (show (-1 ≤ (0 : Int) ∧ (0 : Int) ≤ 1000) ∧ k_MA (k_up σ 123 (k_u1 (σ 123) 8 (3))) from ⟨by omega, ⟨(show k_F0 (k_u1 (σ 123) 8 (3)) from (k_F0_u (hMA).1 (by omega))), (hMA).2.1, (hMA).2.2.1, (hMA).2.2.2.1, (hMA).2.2.2.2.1, (hMA).2.2.2.2.2.1, (hMA).2.2.2.2.2.2.1, (hMA).2.2.2.2.2.2.2.1, (hMA).2.2.2.2.2.2.2.2.1, (hMA).2.2.2.2.2.2.2.2.2.1, (hMA).2.2.2.2.2.2.2.2.2.2.1, (hMA).2.2.2.2.2.2.2.2.2.2.2.1, (hMA).2.2.2.2.2.2.2.2.2.2.2.2⟩⟩)
    · have h5 := zb_0.mp h5
      refine k_iff (F := (k_pP sh R_openClassNow)) h5 ?_
      refine k_aload_n dX8_openClassNow_16 0 rfl rfl (by decide) ?_
      refine k_iconst (v := 1) dX8_openClassNow_17 rfl ?_
      refine k_callVr (st := []) (as := [.int (iI (1))]) dX8_openClassNow_18 oX8_bad w_1884 w_1886 w_35 rfl (by omega) rfl (Nat.le_of_ble_eq_true rfl) (by decide) (s_123 hsh) rfl (c8_bad hsh) ?_
      refine k_eqσ (σ' := (k_up σ 123 (k_u1 (σ 123) 8 (1)))) ((show k_up σ 123 (k_u1 (σ 123) 8 (1)) = (k_up σ 123 (k_u1 (σ 123) 8 (1))) from rfl)).symm ?_
      exact k_retiP dX8_openClassNow_21 rfl rfl rfl (show (-1 ≤ (0 : Int) ∧ (0 : Int) ≤ 1000) ∧ k_MA (k_up σ 123 (k_u1 (σ 123) 8 (1))) from ⟨by omega, ⟨(show k_F0 (k_u1 (σ 123) 8 (1)) from (k_F0_u (hMA).1 (by omega))), (hMA).2.1, (hMA).2.2.1, (hMA).2.2.2.1, (hMA).2.2.2.2.1, (hMA).2.2.2.2.2.1, (hMA).2.2.2.2.2.2.1, (hMA).2.2.2.2.2.2.2.1, (hMA).2.2.2.2.2.2.2.2.1, (hMA).2.2.2.2.2.2.2.2.2.1, (hMA).2.2.2.2.2.2.2.2.2.2.1, (hMA).2.2.2.2.2.2.2.2.2.2.2.1, (hMA).2.2.2.2.2.2.2.2.2.2.2.2⟩⟩)
abbrev R_closeClassNow (t : Int × (Nat → Nat → Int)) : Prop := (-1 ≤ t.1 ∧ t.1 ≤ 1000) ∧ k_MA t.2
def m_closeClassNow (σ : Nat → Nat → Int) (s : Int) (b : Int) : Int × (Nat → Nat → Int) := if 0 ≤ s ∧ s < (σ 124) 0 then if 0 ≤ b ∧ b < (σ 124) 1 then if (σ 124) (17 + 4 * s + b).toNat = 1 then if (m_inClass (σ 124) s b) ≤ 0 then (m_openOf (k_u1 (σ 124) ((17 + (4 * s)) + b).toNat (0)) s, (k_up σ 124 (k_u1 (σ 124) ((17 + (4 * s)) + b).toNat (0)))) else (0, (k_up σ 123 (k_u1 (σ 123) 8 (3)))) else (0, (k_up σ 123 (k_u1 (σ 123) 8 (3)))) else (0, (k_up σ 123 (k_u1 (σ 123) 8 (1)))) else (0, (k_up σ 123 (k_u1 (σ 123) 8 (1))))
set_option maxRecDepth 100000 in
set_option maxHeartbeats 4000000 in
theorem c8_closeClassNow (hsh : k_Main sh) (hMA : k_MA σ) {s b : Int} (h_s : -2147483648 ≤ s ∧ s < 2147483648) (h_b : -2147483648 ≤ b ∧ b < 2147483648) : k_C E mX8_closeClassNow 4 [.ref 123, .int (iI (s)), .int (iI (b))] sh σ 0 0 ((k_pP sh R_closeClassNow) (m_closeClassNow σ s b)) := by
  refine k_C_of (ls0 := [(0, .ref 123), (1, .int (iI (s))), (2, .int (iI (b)))]) rfl pnX8 (fun v hv => k_cat1 rfl hv) (Nat.le_of_ble_eq_true rfl) rfl ?_
  obtain ⟨⟨t0, t0b⟩, ⟨t1, t1b⟩, ⟨t2, t2b⟩, ⟨t3, t3b⟩, -⟩ := id hMA.2.1
  obtain ⟨⟨f14_0, g14_0⟩, ⟨f14_1, g14_1⟩, ⟨f14_2, g14_2⟩, ⟨f14_3, g14_3⟩, ⟨f14_4, g14_4⟩, ⟨f14_5, g14_5⟩, ⟨f14_6, g14_6⟩, ⟨f14_7, g14_7⟩, ⟨f14_8, g14_8⟩, ⟨f14_9, g14_9⟩, ⟨f14_10, g14_10⟩, ⟨f14_11, g14_11⟩, ⟨f14_12, g14_12⟩, ⟨f14_13, g14_13⟩⟩ := id hMA.1
  unfold m_closeClassNow
  refine k_aload_n dX8_closeClassNow_0 0 rfl rfl (by decide) ?_
  refine k_iload_n dX8_closeClassNow_1 1 rfl rfl ?_
  refine k_callVr (st := []) (as := [.int (iI (s))]) dX8_closeClassNow_2 oX8_isSubject w_1900 w_1902 w_38 rfl (by omega) rfl (Nat.le_of_ble_eq_true rfl) (by decide) (s_123 hsh) rfl (c8_isSubject (σ := σ) hsh (hMA).2.1 ⟨by omega, by omega⟩) ?_
  refine k_if_eq (tgt := 16) dX8_closeClassNow_5 rfl (zb_kr _) (fun h2 => ?_) (fun h2 => ?_)
  · have h2 := zb_0.mp h2
    refine k_iff (F := (k_pP sh R_closeClassNow)) h2 ?_
    refine k_aload_n dX8_closeClassNow_16 0 rfl rfl (by decide) ?_
    refine k_iconst (v := 1) dX8_closeClassNow_17 rfl ?_
    refine k_callVr (st := []) (as := [.int (iI (1))]) dX8_closeClassNow_18 oX8_bad w_1884 w_1886 w_35 rfl (by omega) rfl (Nat.le_of_ble_eq_true rfl) (by decide) (s_123 hsh) rfl (c8_bad hsh) ?_
    refine k_eqσ (σ' := (k_up σ 123 (k_u1 (σ 123) 8 (1)))) ((show k_up σ 123 (k_u1 (σ 123) 8 (1)) = (k_up σ 123 (k_u1 (σ 123) 8 (1))) from rfl)).symm ?_
    exact k_retiP dX8_closeClassNow_21 rfl rfl rfl (show (-1 ≤ (0 : Int) ∧ (0 : Int) ≤ 1000) ∧ k_MA (k_up σ 123 (k_u1 (σ 123) 8 (1))) from ⟨by omega, ⟨(show k_F0 (k_u1 (σ 123) 8 (1)) from (k_F0_u (hMA).1 (by omega))), (hMA).2.1, (hMA).2.2.1, (hMA).2.2.2.1, (hMA).2.2.2.2.1, (hMA).2.2.2.2.2.1, (hMA).2.2.2.2.2.2.1, (hMA).2.2.2.2.2.2.2.1, (hMA).2.2.2.2.2.2.2.2.1, (hMA).2.2.2.2.2.2.2.2.2.1, (hMA).2.2.2.2.2.2.2.2.2.2.1, (hMA).2.2.2.2.2.2.2.2.2.2.2.1, (hMA).2.2.2.2.2.2.2.2.2.2.2.2⟩⟩)
  · have h2 := zb_n0.mp h2
    refine k_ift (F := (k_pP sh R_closeClassNow)) h2 ?_
    refine k_aload_n dX8_closeClassNow_8 0 rfl rfl (by decide) ?_
    refine k_iload_n dX8_closeClassNow_9 2 rfl rfl ?_
    refine k_callVr (st := []) (as := [.int (iI (b))]) dX8_closeClassNow_10 oX8_isBlock w_1944 w_1946 w_44 rfl (by omega) rfl (Nat.le_of_ble_eq_true rfl) (by decide) (s_123 hsh) rfl (c8_isBlock (σ := σ) hsh (hMA).2.1 ⟨by omega, by omega⟩) ?_
    refine k_if_ne (tgt := 22) dX8_closeClassNow_13 rfl (zb_kr _) (fun h5 => ?_) (fun h5 => ?_)
    · have h5 := zb_n0.mp h5
      refine k_ift (F := (k_pP sh R_closeClassNow)) h5 ?_
      refine k_aload_n dX8_closeClassNow_22 0 rfl rfl (by decide) ?_
      refine k_iload_n dX8_closeClassNow_23 1 rfl rfl ?_
      refine k_iload_n dX8_closeClassNow_24 2 rfl rfl ?_
      refine k_callVr (st := []) (as := [.int (iI (s)), .int (iI (b))]) dX8_closeClassNow_25 oX8_hasOpen w_1928 w_1930 w_42 rfl (by omega) rfl (Nat.le_of_ble_eq_true rfl) (by decide) (s_123 hsh) rfl (c8_hasOpen (σ := σ) hsh (hMA).2.1 (by omega) (by omega)) ?_
      refine k_if_eq (tgt := 40) dX8_closeClassNow_28 rfl (zb_kr _) (fun h7 => ?_) (fun h7 => ?_)
      · have h7 := zb_0.mp h7
        refine k_iff (F := (k_pP sh R_closeClassNow)) h7 ?_
        refine k_aload_n dX8_closeClassNow_40 0 rfl rfl (by decide) ?_
        refine k_iconst (v := 3) dX8_closeClassNow_41 rfl ?_
        refine k_callVr (st := []) (as := [.int (iI (3))]) dX8_closeClassNow_42 oX8_bad w_1884 w_1886 w_35 rfl (by omega) rfl (Nat.le_of_ble_eq_true rfl) (by decide) (s_123 hsh) rfl (c8_bad hsh) ?_
        refine k_eqσ (σ' := (k_up σ 123 (k_u1 (σ 123) 8 (3)))) ((show k_up σ 123 (k_u1 (σ 123) 8 (3)) = (k_up σ 123 (k_u1 (σ 123) 8 (3))) from rfl)).symm ?_
        exact k_retiP dX8_closeClassNow_45 rfl rfl rfl (show (-1 ≤ (0 : Int) ∧ (0 : Int) ≤ 1000) ∧ k_MA (k_up σ 123 (k_u1 (σ 123) 8 (3))) from ⟨by omega, ⟨(show k_F0 (k_u1 (σ 123) 8 (3)) from (k_F0_u (hMA).1 (by omega))), (hMA).2.1, (hMA).2.2.1, (hMA).2.2.2.1, (hMA).2.2.2.2.1, (hMA).2.2.2.2.2.1, (hMA).2.2.2.2.2.2.1, (hMA).2.2.2.2.2.2.2.1, (hMA).2.2.2.2.2.2.2.2.1, (hMA).2.2.2.2.2.2.2.2.2.1, (hMA).2.2.2.2.2.2.2.2.2.2.1, (hMA).2.2.2.2.2.2.2.2.2.2.2.1, (hMA).2.2.2.2.2.2.2.2.2.2.2.2⟩⟩)
      · have h7 := zb_n0.mp h7
        refine k_ift (F := (k_pP sh R_closeClassNow)) h7 ?_
        refine k_aload_n dX8_closeClassNow_31 0 rfl rfl (by decide) ?_
        refine k_iload_n dX8_closeClassNow_32 1 rfl rfl ?_
        refine k_iload_n dX8_closeClassNow_33 2 rfl rfl ?_
        refine k_callVrP (st := []) (as := [.int (iI (s)), .int (iI (b))]) dX8_closeClassNow_34 oX8_inClass w_1904 w_1906 w_39 rfl (by omega) rfl (Nat.le_of_ble_eq_true rfl) (by decide) (s_123 hsh) rfl (c8_inClass hsh (hMA).2.1 (by omega) (by omega)) (fun z9 => ?_)
        have z9 : 0 ≤ m_inClass (σ 124) s b ∧ m_inClass (σ 124) s b ≤ 12 := z9
        refine k_if_le (tgt := 46) dX8_closeClassNow_37 rfl ⟨by omega, by omega⟩ (fun h10 => ?_) (fun h10 => ?_)
        · refine k_ift (F := (k_pP sh R_closeClassNow)) h10 ?_
          refine k_aload_n dX8_closeClassNow_46 0 rfl rfl (by decide) ?_
          refine k_get (kf := 0) (v := .ref 124) dX8_closeClassNow_47 kcX8 w_1747 (by decide) (by decide) (s_123 hsh) rfl rfl ?_
          refine k_bipush (v := 17) dX8_closeClassNow_50 (by decide) ?_
          refine k_iconst (v := 4) dX8_closeClassNow_52 rfl ?_
          refine k_iload_n dX8_closeClassNow_53 1 rfl rfl ?_
          refine k_imul dX8_closeClassNow_54 ?_
          refine k_iadd dX8_closeClassNow_55 ?_
          refine k_iload_n dX8_closeClassNow_56 2 rfl rfl ?_
          refine k_iadd dX8_closeClassNow_57 ?_
          refine k_iconst (v := 0) dX8_closeClassNow_58 rfl ?_
          refine k_iastW dX8_closeClassNow_59 (by decide) (s_124 hsh) (by omega) (by omega) (by decide) ?_
          refine k_eqσ (σ' := (k_up σ 124 (k_u1 (σ 124) ((17 + (4 * s)) + b).toNat (0)))) rfl ?_
          refine k_aload_n dX8_closeClassNow_60 0 rfl rfl (by decide) ?_
          refine k_iload_n dX8_closeClassNow_61 1 rfl rfl ?_
          refine k_callVrP (st := []) (as := [.int (iI (s))]) dX8_closeClassNow_62 oX8_openOf w_1948 w_1950 w_45 rfl (by omega) rfl (Nat.le_of_ble_eq_true rfl) (by decide) (s_123 hsh) rfl (c8_openOf (σ := (k_up σ 124 (k_u1 (σ 124) ((17 + (4 * s)) + b).toNat (0)))) hsh (show k_Mo (k_u1 (σ 124) ((17 + (4 * s)) + b).toNat (0)) from (k_Mo_u (hMA).2.1 (by omega))) (by omega)) (fun z11 => ?_)
          have z11 : 0 ≤ m_openOf (k_u1 (σ 124) ((17 + (4 * s)) + b).toNat (0)) s ∧ m_openOf (k_u1 (σ 124) ((17 + (4 * s)) + b).toNat (0)) s ≤ 4 := z11
          refine k_eqst (st' := [.int (iI (m_openOf (k_u1 (σ 124) ((17 + (4 * s)) + b).toNat (0)) s))]) rfl ?_
          exact k_retiP dX8_closeClassNow_65 rfl rfl rfl (show (-1 ≤ m_openOf (k_u1 (σ 124) ((17 + (4 * s)) + b).toNat (0)) s ∧ m_openOf (k_u1 (σ 124) ((17 + (4 * s)) + b).toNat (0)) s ≤ 1000) ∧ k_MA (k_up σ 124 (k_u1 (σ 124) ((17 + (4 * s)) + b).toNat (0))) from ⟨by omega, ⟨(hMA).1, (show k_Mo (k_u1 (σ 124) ((17 + (4 * s)) + b).toNat (0)) from (k_Mo_u (hMA).2.1 (by omega))), (hMA).2.2.1, (hMA).2.2.2.1, (hMA).2.2.2.2.1, (hMA).2.2.2.2.2.1, (hMA).2.2.2.2.2.2.1, (hMA).2.2.2.2.2.2.2.1, (hMA).2.2.2.2.2.2.2.2.1, (hMA).2.2.2.2.2.2.2.2.2.1, (hMA).2.2.2.2.2.2.2.2.2.2.1, (hMA).2.2.2.2.2.2.2.2.2.2.2.1, (hMA).2.2.2.2.2.2.2.2.2.2.2.2⟩⟩)
        · refine k_iff (F := (k_pP sh R_closeClassNow)) (Int.not_le.mpr h10) ?_
          refine k_aload_n dX8_closeClassNow_40 0 rfl rfl (by decide) ?_
          refine k_iconst (v := 3) dX8_closeClassNow_41 rfl ?_
          refine k_callVr (st := []) (as := [.int (iI (3))]) dX8_closeClassNow_42 oX8_bad w_1884 w_1886 w_35 rfl (by omega) rfl (Nat.le_of_ble_eq_true rfl) (by decide) (s_123 hsh) rfl (c8_bad hsh) ?_
          refine k_eqσ (σ' := (k_up σ 123 (k_u1 (σ 123) 8 (3)))) ((show k_up σ 123 (k_u1 (σ 123) 8 (3)) = (k_up σ 123 (k_u1 (σ 123) 8 (3))) from rfl)).symm ?_
          exact k_retiP dX8_closeClassNow_45 rfl rfl rfl (show (-1 ≤ (0 : Int) ∧ (0 : Int) ≤ 1000) ∧ k_MA (k_up σ 123 (k_u1 (σ 123) 8 (3))) from ⟨by omega, ⟨(show k_F0 (k_u1 (σ 123) 8 (3)) from (k_F0_u (hMA).1 (by omega))), (hMA).2.1, (hMA).2.2.1, (hMA).2.2.2.1, (hMA).2.2.2.2.1, (hMA).2.2.2.2.2.1, (hMA).2.2.2.2.2.2.1, (hMA).2.2.2.2.2.2.2.1, (hMA).2.2.2.2.2.2.2.2.1, (hMA).2.2.2.2.2.2.2.2.2.1, (hMA).2.2.2.2.2.2.2.2.2.2.1, (hMA).2.2.2.2.2.2.2.2.2.2.2.1, (hMA).2.2.2.2.2.2.2.2.2.2.2.2⟩⟩)
    · have h5 := zb_0.mp h5
      refine k_iff (F := (k_pP sh R_closeClassNow)) h5 ?_
      refine k_aload_n dX8_closeClassNow_16 0 rfl rfl (by decide) ?_
      refine k_iconst (v := 1) dX8_closeClassNow_17 rfl ?_
      refine k_callVr (st := []) (as := [.int (iI (1))]) dX8_closeClassNow_18 oX8_bad w_1884 w_1886 w_35 rfl (by omega) rfl (Nat.le_of_ble_eq_true rfl) (by decide) (s_123 hsh) rfl (c8_bad hsh) ?_
      refine k_eqσ (σ' := (k_up σ 123 (k_u1 (σ 123) 8 (1)))) ((show k_up σ 123 (k_u1 (σ 123) 8 (1)) = (k_up σ 123 (k_u1 (σ 123) 8 (1))) from rfl)).symm ?_
      exact k_retiP dX8_closeClassNow_21 rfl rfl rfl (show (-1 ≤ (0 : Int) ∧ (0 : Int) ≤ 1000) ∧ k_MA (k_up σ 123 (k_u1 (σ 123) 8 (1))) from ⟨by omega, ⟨(show k_F0 (k_u1 (σ 123) 8 (1)) from (k_F0_u (hMA).1 (by omega))), (hMA).2.1, (hMA).2.2.1, (hMA).2.2.2.1, (hMA).2.2.2.2.1, (hMA).2.2.2.2.2.1, (hMA).2.2.2.2.2.2.1, (hMA).2.2.2.2.2.2.2.1, (hMA).2.2.2.2.2.2.2.2.1, (hMA).2.2.2.2.2.2.2.2.2.1, (hMA).2.2.2.2.2.2.2.2.2.2.1, (hMA).2.2.2.2.2.2.2.2.2.2.2.1, (hMA).2.2.2.2.2.2.2.2.2.2.2.2⟩⟩)
abbrev R_addPupilNow (t : Int × (Nat → Nat → Int)) : Prop := (-1 ≤ t.1 ∧ t.1 ≤ 1000) ∧ k_MA t.2
def r_addPupilNow_46 (σ : Nat → Nat → Int) (x46 : (Nat → Int)) : Int × (Nat → Nat → Int) := ((σ 124) 2, (k_up σ 124 (k_u1 x46 2 ((x46 2) + 1))))
def b_addPupilNow_46 (σ : Nat → Nat → Int) (i46 : Nat) (x46 : (Nat → Int)) : (Nat → Int) := (k_u1 x46 ((105 + (4 * ((σ 124) 2))) + ((i46 : Int))).toNat (-1))
def m_addPupilNow (σ : Nat → Nat → Int) : Int × (Nat → Nat → Int) := if ((σ 124) 2) = 12 then (0, (k_up σ 123 (k_u1 (σ 123) 8 (3)))) else (r_addPupilNow_46 σ) (k_it (b_addPupilNow_46 σ) (4) 0 ((k_u1 (k_u1 (σ 124) (45 + ((σ 124) 2)).toNat (0)) (93 + ((σ 124) 2)).toNat (-1))))
set_option maxRecDepth 100000 in
set_option maxHeartbeats 4000000 in
theorem c8_addPupilNow (hsh : k_Main sh) (hMA : k_MA σ)  : k_C E mX8_addPupilNow 3 [.ref 123] sh σ 0 0 ((k_pP sh R_addPupilNow) (m_addPupilNow σ)) := by
  refine k_C_of (ls0 := [(0, .ref 123)]) rfl pnX8 (fun v hv => k_cat1 rfl hv) (Nat.le_of_ble_eq_true rfl) rfl ?_
  obtain ⟨⟨t0, t0b⟩, ⟨t1, t1b⟩, ⟨t2, t2b⟩, ⟨t3, t3b⟩, -⟩ := id hMA.2.1
  obtain ⟨⟨f6_0, g6_0⟩, ⟨f6_1, g6_1⟩, ⟨f6_2, g6_2⟩, ⟨f6_3, g6_3⟩, ⟨f6_4, g6_4⟩, ⟨f6_5, g6_5⟩, ⟨f6_6, g6_6⟩, ⟨f6_7, g6_7⟩, ⟨f6_8, g6_8⟩, ⟨f6_9, g6_9⟩, ⟨f6_10, g6_10⟩, ⟨f6_11, g6_11⟩, ⟨f6_12, g6_12⟩, ⟨f6_13, g6_13⟩⟩ := id hMA.1
  unfold m_addPupilNow
  refine k_aload_n dX8_addPupilNow_0 0 rfl rfl (by decide) ?_
  refine k_get (kf := 0) (v := .ref 124) dX8_addPupilNow_1 kcX8 w_1747 (by decide) (by decide) (s_123 hsh) rfl rfl ?_
  refine k_iconst (v := 2) dX8_addPupilNow_4 rfl ?_
  refine k_iald dX8_addPupilNow_5 (by decide) (s_124 hsh) (by omega) (by omega) (by decide) ?_
  refine k_eqst (st' := [.int (iI ((σ 124) 2))]) rfl ?_
  refine k_bipush (v := 12) dX8_addPupilNow_6 (by decide) ?_
  refine k_icmp_ne (tgt := 17) dX8_addPupilNow_8 rfl ⟨by omega, by omega⟩ ⟨by decide, by decide⟩ (fun h1 => ?_) (fun h1 => ?_)
  · refine k_iff (F := (k_pP sh R_addPupilNow)) h1 ?_
    refine k_aload_n dX8_addPupilNow_17 0 rfl rfl (by decide) ?_
    refine k_get (kf := 0) (v := .ref 124) dX8_addPupilNow_18 kcX8 w_1747 (by decide) (by decide) (s_123 hsh) rfl rfl ?_
    refine k_iconst (v := 2) dX8_addPupilNow_21 rfl ?_
    refine k_iald dX8_addPupilNow_22 (by decide) (s_124 hsh) (by omega) (by omega) (by decide) ?_
    refine k_eqst (st' := [.int (iI ((σ 124) 2))]) rfl ?_
    refine k_istore_n (ls' := [(0, .ref 123), (1, .int (iI ((σ 124) 2)))]) dX8_addPupilNow_23 rfl (by decide) rfl rfl ?_
    refine k_aload_n dX8_addPupilNow_24 0 rfl rfl (by decide) ?_
    refine k_get (kf := 0) (v := .ref 124) dX8_addPupilNow_25 kcX8 w_1747 (by decide) (by decide) (s_123 hsh) rfl rfl ?_
    refine k_bipush (v := 45) dX8_addPupilNow_28 (by decide) ?_
    refine k_iload_n dX8_addPupilNow_30 1 rfl rfl ?_
    refine k_iadd dX8_addPupilNow_31 ?_
    refine k_iconst (v := 0) dX8_addPupilNow_32 rfl ?_
    refine k_iastW dX8_addPupilNow_33 (by decide) (s_124 hsh) (by omega) (by omega) (by decide) ?_
    refine k_eqσ (σ' := (k_up σ 124 (k_u1 (σ 124) (45 + ((σ 124) 2)).toNat (0)))) rfl ?_
    refine k_aload_n dX8_addPupilNow_34 0 rfl rfl (by decide) ?_
    refine k_get (kf := 0) (v := .ref 124) dX8_addPupilNow_35 kcX8 w_1747 (by decide) (by decide) (s_123 hsh) rfl rfl ?_
    refine k_bipush (v := 93) dX8_addPupilNow_38 (by decide) ?_
    refine k_iload_n dX8_addPupilNow_40 1 rfl rfl ?_
    refine k_iadd dX8_addPupilNow_41 ?_
    refine k_iconst (v := (-1)) dX8_addPupilNow_42 rfl ?_
    refine k_iastW dX8_addPupilNow_43 (by decide) (s_124 hsh) (by omega) (by omega) (by decide) ?_
    refine k_eqσ (σ' := (k_up σ 124 (k_u1 (k_u1 (σ 124) (45 + ((σ 124) 2)).toNat (0)) (93 + ((σ 124) 2)).toNat (-1)))) (show k_up (k_up σ 124 (k_u1 (σ 124) (45 + ((σ 124) 2)).toNat (0))) 124 (k_u1 (k_u1 (σ 124) (45 + ((σ 124) 2)).toNat (0)) (93 + ((σ 124) 2)).toNat (-1)) = _ from k_up_up).symm ?_
    refine k_iconst (v := 0) dX8_addPupilNow_44 rfl ?_
    refine k_istore_n (ls' := [(0, .ref 123), (1, .int (iI ((σ 124) 2))), (2, .int (iI (0)))]) dX8_addPupilNow_45 rfl (by decide) rfl rfl ?_
    refine k_loop (α := (Nat → Int)) (P := fun (i46 : Nat) (x46 : (Nat → Int)) Q => k_V E mX8_addPupilNow _ 46 [(0, .ref 123), (1, .int (iI ((σ 124) 2))), (2, .int (iI ((i46 : Int))))] [] sh (k_up σ 124 x46) _ _ Q) (J := fun (i46 : Nat) (x46 : (Nat → Int)) => (x46 2 = σ 124 2) ∧ (k_Mo x46)) (4) (b_addPupilNow_46 σ) ((k_u1 (k_u1 (σ 124) (45 + ((σ 124) 2)).toNat (0)) (93 + ((σ 124) 2)).toNat (-1))) (F := fun t => (k_pP sh R_addPupilNow) ((r_addPupilNow_46 σ) t)) (show ((k_u1 (k_u1 (σ 124) (45 + ((σ 124) 2)).toNat (0)) (93 + ((σ 124) 2)).toNat (-1)) 2 = σ 124 2) ∧ (k_Mo (k_u1 (k_u1 (σ 124) (45 + ((σ 124) 2)).toNat (0)) (93 + ((σ 124) 2)).toNat (-1))) from ⟨((if_neg (by omega)).trans (if_neg (by omega))), (show k_Mo (k_u1 (k_u1 (σ 124) (45 + ((σ 124) 2)).toNat (0)) (93 + ((σ 124) 2)).toNat (-1)) from (k_Mo_u (show k_Mo (k_u1 (σ 124) (45 + ((σ 124) 2)).toNat (0)) from (k_Mo_u (hMA).2.1 (by omega))) (by omega)))⟩) ?_ ?_
    · intro x46 hJ46
      have hJ46 : (x46 2 = σ 124 2) ∧ (k_Mo x46) := hJ46
      obtain ⟨hU46, hW46_124⟩ := id hJ46
      show k_V E mX8_addPupilNow _ 46 [(0, .ref 123), (1, .int (iI ((σ 124) 2))), (2, .int (iI (((4 : Nat) : Int))))] [] sh (k_up σ 124 x46) _ _ ((k_pP sh R_addPupilNow) ((r_addPupilNow_46 σ) x46))
      unfold r_addPupilNow_46
      refine k_iload_n dX8_addPupilNow_46 2 rfl rfl ?_
      refine k_iconst (v := 4) dX8_addPupilNow_47 rfl ?_
      refine k_icmp_ge (tgt := 71) dX8_addPupilNow_48 rfl ⟨by omega, by omega⟩ ⟨by decide, by decide⟩ (fun h3 => ?_) (fun h3 => absurd h3 (by omega))
      refine k_aload_n dX8_addPupilNow_71 0 rfl rfl (by decide) ?_
      refine k_get (kf := 0) (v := .ref 124) dX8_addPupilNow_72 kcX8 w_1747 (by decide) (by decide) (s_123 hsh) rfl rfl ?_
      refine k_iconst (v := 2) dX8_addPupilNow_75 rfl ?_
      refine k_dup2 dX8_addPupilNow_76 rfl rfl ?_
      refine k_iald dX8_addPupilNow_77 (by decide) (s_124 hsh) (by omega) (by omega) (by decide) ?_
      refine k_eqst (st' := [.int (iI (x46 2)), .int (iI (2)), .ref 124]) rfl ?_
      refine k_iconst (v := 1) dX8_addPupilNow_78 rfl ?_
      refine k_iadd dX8_addPupilNow_79 ?_
      refine k_iastW dX8_addPupilNow_80 (by decide) (s_124 hsh) (by omega) (by omega) (by decide) ?_
      refine k_eqσ (σ' := (k_up σ 124 (k_u1 x46 2 ((x46 2) + 1)))) (show k_up (k_up σ 124 x46) 124 (k_u1 x46 2 ((x46 2) + 1)) = _ from k_up_up).symm ?_
      refine k_iload_n dX8_addPupilNow_81 1 rfl rfl ?_
      exact k_retiP dX8_addPupilNow_82 rfl rfl rfl (show (-1 ≤ (σ 124) 2 ∧ (σ 124) 2 ≤ 1000) ∧ k_MA (k_up σ 124 (k_u1 x46 2 ((x46 2) + 1))) from ⟨by omega, ⟨(hMA).1, (show k_Mo (k_u1 x46 2 ((x46 2) + 1)) from (k_Mo_u hW46_124 (by omega))), (hMA).2.2.1, (hMA).2.2.2.1, (hMA).2.2.2.2.1, (hMA).2.2.2.2.2.1, (hMA).2.2.2.2.2.2.1, (hMA).2.2.2.2.2.2.2.1, (hMA).2.2.2.2.2.2.2.2.1, (hMA).2.2.2.2.2.2.2.2.2.1, (hMA).2.2.2.2.2.2.2.2.2.2.1, (hMA).2.2.2.2.2.2.2.2.2.2.2.1, (hMA).2.2.2.2.2.2.2.2.2.2.2.2⟩⟩)
    · intro n46 i46 x46 hi46 hJ46 ih46
      have hJ46 : (x46 2 = σ 124 2) ∧ (k_Mo x46) := hJ46
      obtain ⟨hU46, hW46_124⟩ := id hJ46
      show k_V E mX8_addPupilNow _ 46 [(0, .ref 123), (1, .int (iI ((σ 124) 2))), (2, .int (iI ((i46 : Int))))] [] sh (k_up σ 124 x46) _ _ ((fun t => (k_pP sh R_addPupilNow) ((r_addPupilNow_46 σ) (k_it (b_addPupilNow_46 σ) n46 (i46 + 1) t))) ((b_addPupilNow_46 σ) i46 x46))
      unfold b_addPupilNow_46
      refine k_iload_n dX8_addPupilNow_46 2 rfl rfl ?_
      refine k_iconst (v := 4) dX8_addPupilNow_47 rfl ?_
      refine k_icmp_ge (tgt := 71) dX8_addPupilNow_48 rfl ⟨by omega, by omega⟩ ⟨by decide, by decide⟩ (fun h4 => absurd h4 (by omega)) (fun h4 => ?_)
      refine k_aload_n dX8_addPupilNow_51 0 rfl rfl (by decide) ?_
      refine k_get (kf := 0) (v := .ref 124) dX8_addPupilNow_52 kcX8 w_1747 (by decide) (by decide) (s_123 hsh) rfl rfl ?_
      refine k_bipush (v := 105) dX8_addPupilNow_55 (by decide) ?_
      refine k_iconst (v := 4) dX8_addPupilNow_57 rfl ?_
      refine k_iload_n dX8_addPupilNow_58 1 rfl rfl ?_
      refine k_imul dX8_addPupilNow_59 ?_
      refine k_iadd dX8_addPupilNow_60 ?_
      refine k_iload_n dX8_addPupilNow_61 2 rfl rfl ?_
      refine k_iadd dX8_addPupilNow_62 ?_
      refine k_iconst (v := (-1)) dX8_addPupilNow_63 rfl ?_
      refine k_iastW dX8_addPupilNow_64 (by decide) (s_124 hsh) (by omega) (by omega) (by decide) ?_
      refine k_eqσ (σ' := (k_up σ 124 (k_u1 x46 ((105 + (4 * ((σ 124) 2))) + ((i46 : Int))).toNat (-1)))) (show k_up (k_up σ 124 x46) 124 (k_u1 x46 ((105 + (4 * ((σ 124) 2))) + ((i46 : Int))).toNat (-1)) = _ from k_up_up).symm ?_
      refine k_iinc (ls' := [(0, .ref 123), (1, .int (iI ((σ 124) 2))), (2, .int (iI ((i46 : Int) + 1)))]) dX8_addPupilNow_65 2 rfl (by decide) rfl rfl ?_
      refine k_goto (tgt := 46) dX8_addPupilNow_68 rfl ?_
      exact ih46 ((k_u1 x46 ((105 + (4 * ((σ 124) 2))) + ((i46 : Int))).toNat (-1))) (show ((k_u1 x46 ((105 + (4 * ((σ 124) 2))) + ((i46 : Int))).toNat (-1)) 2 = σ 124 2) ∧ (k_Mo (k_u1 x46 ((105 + (4 * ((σ 124) 2))) + ((i46 : Int))).toNat (-1))) from ⟨((if_neg (by omega)).trans hU46), (show k_Mo (k_u1 x46 ((105 + (4 * ((σ 124) 2))) + ((i46 : Int))).toNat (-1)) from (k_Mo_u hW46_124 (by omega)))⟩)
  · refine k_ift (F := (k_pP sh R_addPupilNow)) h1 ?_
    refine k_aload_n dX8_addPupilNow_11 0 rfl rfl (by decide) ?_
    refine k_iconst (v := 3) dX8_addPupilNow_12 rfl ?_
    refine k_callVr (st := []) (as := [.int (iI (3))]) dX8_addPupilNow_13 oX8_bad w_1884 w_1886 w_35 rfl (by omega) rfl (Nat.le_of_ble_eq_true rfl) (by decide) (s_123 hsh) rfl (c8_bad hsh) ?_
    refine k_eqσ (σ' := (k_up σ 123 (k_u1 (σ 123) 8 (3)))) ((show k_up σ 123 (k_u1 (σ 123) 8 (3)) = (k_up σ 123 (k_u1 (σ 123) 8 (3))) from rfl)).symm ?_
    exact k_retiP dX8_addPupilNow_16 rfl rfl rfl (show (-1 ≤ (0 : Int) ∧ (0 : Int) ≤ 1000) ∧ k_MA (k_up σ 123 (k_u1 (σ 123) 8 (3))) from ⟨by omega, ⟨(show k_F0 (k_u1 (σ 123) 8 (3)) from (k_F0_u (hMA).1 (by omega))), (hMA).2.1, (hMA).2.2.1, (hMA).2.2.2.1, (hMA).2.2.2.2.1, (hMA).2.2.2.2.2.1, (hMA).2.2.2.2.2.2.1, (hMA).2.2.2.2.2.2.2.1, (hMA).2.2.2.2.2.2.2.2.1, (hMA).2.2.2.2.2.2.2.2.2.1, (hMA).2.2.2.2.2.2.2.2.2.2.1, (hMA).2.2.2.2.2.2.2.2.2.2.2.1, (hMA).2.2.2.2.2.2.2.2.2.2.2.2⟩⟩)
abbrev R_addWishNow (t : Int × (Nat → Nat → Int)) : Prop := (-1 ≤ t.1 ∧ t.1 ≤ 1000) ∧ k_MA t.2
def m_addWishNow (σ : Nat → Nat → Int) (p : Int) (s : Int) : Int × (Nat → Nat → Int) := if 0 ≤ p ∧ p < (σ 124) 2 then if 0 ≤ s ∧ s < (σ 124) 0 then if ((σ 124) (45 + p).toNat) = 3 then (0, (k_up σ 123 (k_u1 (σ 123) 8 (3)))) else if m_isWish (σ 124) p s = true then (0, (k_up σ 123 (k_u1 (σ 123) 8 (3)))) else if ((σ 124) (93 + p).toNat) = s then (0, (k_up σ 123 (k_u1 (σ 123) 8 (3)))) else (((σ 124) (45 + p).toNat) + 1, (k_up σ 124 (k_u1 (k_u1 (σ 124) ((57 + (3 * p)) + ((σ 124) (45 + p).toNat)).toNat (s)) (45 + p).toNat (((σ 124) (45 + p).toNat) + 1)))) else (0, (k_up σ 123 (k_u1 (σ 123) 8 (1)))) else (0, (k_up σ 123 (k_u1 (σ 123) 8 (1))))
set_option maxRecDepth 100000 in
set_option maxHeartbeats 4000000 in
theorem c8_addWishNow (hsh : k_Main sh) (hMA : k_MA σ) {p s : Int} (h_p : -2147483648 ≤ p ∧ p < 2147483648) (h_s : -2147483648 ≤ s ∧ s < 2147483648) : k_C E mX8_addWishNow 4 [.ref 123, .int (iI (p)), .int (iI (s))] sh σ 0 0 ((k_pP sh R_addWishNow) (m_addWishNow σ p s)) := by
  refine k_C_of (ls0 := [(0, .ref 123), (1, .int (iI (p))), (2, .int (iI (s)))]) rfl pnX8 (fun v hv => k_cat1 rfl hv) (Nat.le_of_ble_eq_true rfl) rfl ?_
  obtain ⟨⟨t0, t0b⟩, ⟨t1, t1b⟩, ⟨t2, t2b⟩, ⟨t3, t3b⟩, -⟩ := id hMA.2.1
  obtain ⟨⟨f19_0, g19_0⟩, ⟨f19_1, g19_1⟩, ⟨f19_2, g19_2⟩, ⟨f19_3, g19_3⟩, ⟨f19_4, g19_4⟩, ⟨f19_5, g19_5⟩, ⟨f19_6, g19_6⟩, ⟨f19_7, g19_7⟩, ⟨f19_8, g19_8⟩, ⟨f19_9, g19_9⟩, ⟨f19_10, g19_10⟩, ⟨f19_11, g19_11⟩, ⟨f19_12, g19_12⟩, ⟨f19_13, g19_13⟩⟩ := id hMA.1
  unfold m_addWishNow
  refine k_aload_n dX8_addWishNow_0 0 rfl rfl (by decide) ?_
  refine k_iload_n dX8_addWishNow_1 1 rfl rfl ?_
  refine k_callVr (st := []) (as := [.int (iI (p))]) dX8_addWishNow_2 oX8_isPupil w_1992 w_1994 w_49 rfl (by omega) rfl (Nat.le_of_ble_eq_true rfl) (by decide) (s_123 hsh) rfl (c8_isPupil (σ := σ) hsh (hMA).2.1 ⟨by omega, by omega⟩) ?_
  refine k_if_eq (tgt := 16) dX8_addWishNow_5 rfl (zb_kr _) (fun h2 => ?_) (fun h2 => ?_)
  · have h2 := zb_0.mp h2
    refine k_iff (F := (k_pP sh R_addWishNow)) h2 ?_
    refine k_aload_n dX8_addWishNow_16 0 rfl rfl (by decide) ?_
    refine k_iconst (v := 1) dX8_addWishNow_17 rfl ?_
    refine k_callVr (st := []) (as := [.int (iI (1))]) dX8_addWishNow_18 oX8_bad w_1884 w_1886 w_35 rfl (by omega) rfl (Nat.le_of_ble_eq_true rfl) (by decide) (s_123 hsh) rfl (c8_bad hsh) ?_
    refine k_eqσ (σ' := (k_up σ 123 (k_u1 (σ 123) 8 (1)))) ((show k_up σ 123 (k_u1 (σ 123) 8 (1)) = (k_up σ 123 (k_u1 (σ 123) 8 (1))) from rfl)).symm ?_
    exact k_retiP dX8_addWishNow_21 rfl rfl rfl (show (-1 ≤ (0 : Int) ∧ (0 : Int) ≤ 1000) ∧ k_MA (k_up σ 123 (k_u1 (σ 123) 8 (1))) from ⟨by omega, ⟨(show k_F0 (k_u1 (σ 123) 8 (1)) from (k_F0_u (hMA).1 (by omega))), (hMA).2.1, (hMA).2.2.1, (hMA).2.2.2.1, (hMA).2.2.2.2.1, (hMA).2.2.2.2.2.1, (hMA).2.2.2.2.2.2.1, (hMA).2.2.2.2.2.2.2.1, (hMA).2.2.2.2.2.2.2.2.1, (hMA).2.2.2.2.2.2.2.2.2.1, (hMA).2.2.2.2.2.2.2.2.2.2.1, (hMA).2.2.2.2.2.2.2.2.2.2.2.1, (hMA).2.2.2.2.2.2.2.2.2.2.2.2⟩⟩)
  · have h2 := zb_n0.mp h2
    refine k_ift (F := (k_pP sh R_addWishNow)) h2 ?_
    refine k_aload_n dX8_addWishNow_8 0 rfl rfl (by decide) ?_
    refine k_iload_n dX8_addWishNow_9 2 rfl rfl ?_
    refine k_callVr (st := []) (as := [.int (iI (s))]) dX8_addWishNow_10 oX8_isSubject w_1900 w_1902 w_38 rfl (by omega) rfl (Nat.le_of_ble_eq_true rfl) (by decide) (s_123 hsh) rfl (c8_isSubject (σ := σ) hsh (hMA).2.1 ⟨by omega, by omega⟩) ?_
    refine k_if_ne (tgt := 22) dX8_addWishNow_13 rfl (zb_kr _) (fun h5 => ?_) (fun h5 => ?_)
    · have h5 := zb_n0.mp h5
      refine k_ift (F := (k_pP sh R_addWishNow)) h5 ?_
      refine k_aload_n dX8_addWishNow_22 0 rfl rfl (by decide) ?_
      refine k_get (kf := 0) (v := .ref 124) dX8_addWishNow_23 kcX8 w_1747 (by decide) (by decide) (s_123 hsh) rfl rfl ?_
      refine k_bipush (v := 45) dX8_addWishNow_26 (by decide) ?_
      refine k_iload_n dX8_addWishNow_28 1 rfl rfl ?_
      refine k_iadd dX8_addWishNow_29 ?_
      refine k_iald dX8_addWishNow_30 (by decide) (s_124 hsh) (by omega) (by omega) (by decide) ?_
      have q6 := k_Mo_many (hMA).2.1 (x := 45 + p) (by omega) (by omega)
      refine k_iconst (v := 3) dX8_addWishNow_31 rfl ?_
      refine k_icmp_eq (tgt := 57) dX8_addWishNow_32 rfl ⟨by omega, by omega⟩ ⟨by decide, by decide⟩ (fun h7 => ?_) (fun h7 => ?_)
      · refine k_ift (F := (k_pP sh R_addWishNow)) h7 ?_
        refine k_aload_n dX8_addWishNow_57 0 rfl rfl (by decide) ?_
        refine k_iconst (v := 3) dX8_addWishNow_58 rfl ?_
        refine k_callVr (st := []) (as := [.int (iI (3))]) dX8_addWishNow_59 oX8_bad w_1884 w_1886 w_35 rfl (by omega) rfl (Nat.le_of_ble_eq_true rfl) (by decide) (s_123 hsh) rfl (c8_bad hsh) ?_
        refine k_eqσ (σ' := (k_up σ 123 (k_u1 (σ 123) 8 (3)))) ((show k_up σ 123 (k_u1 (σ 123) 8 (3)) = (k_up σ 123 (k_u1 (σ 123) 8 (3))) from rfl)).symm ?_
        exact k_retiP dX8_addWishNow_62 rfl rfl rfl (show (-1 ≤ (0 : Int) ∧ (0 : Int) ≤ 1000) ∧ k_MA (k_up σ 123 (k_u1 (σ 123) 8 (3))) from ⟨by omega, ⟨(show k_F0 (k_u1 (σ 123) 8 (3)) from (k_F0_u (hMA).1 (by omega))), (hMA).2.1, (hMA).2.2.1, (hMA).2.2.2.1, (hMA).2.2.2.2.1, (hMA).2.2.2.2.2.1, (hMA).2.2.2.2.2.2.1, (hMA).2.2.2.2.2.2.2.1, (hMA).2.2.2.2.2.2.2.2.1, (hMA).2.2.2.2.2.2.2.2.2.1, (hMA).2.2.2.2.2.2.2.2.2.2.1, (hMA).2.2.2.2.2.2.2.2.2.2.2.1, (hMA).2.2.2.2.2.2.2.2.2.2.2.2⟩⟩)
      · refine k_iff (F := (k_pP sh R_addWishNow)) h7 ?_
        refine k_aload_n dX8_addWishNow_35 0 rfl rfl (by decide) ?_
        refine k_iload_n dX8_addWishNow_36 1 rfl rfl ?_
        refine k_iload_n dX8_addWishNow_37 2 rfl rfl ?_
        refine k_callVrP (st := []) (as := [.int (iI (p)), .int (iI (s))]) dX8_addWishNow_38 oX8_isWish w_1996 w_1998 w_50 rfl (by omega) rfl (Nat.le_of_ble_eq_true rfl) (by decide) (s_123 hsh) rfl (c8_isWish hsh (hMA).2.1 (by omega) (by omega)) (fun z9 => ?_)
        refine k_if_ne (tgt := 57) dX8_addWishNow_41 rfl (zb_kr _) (fun h10 => ?_) (fun h10 => ?_)
        · have h10 := zb_n0.mp h10
          refine k_ift (F := (k_pP sh R_addWishNow)) h10 ?_
          refine k_aload_n dX8_addWishNow_57 0 rfl rfl (by decide) ?_
          refine k_iconst (v := 3) dX8_addWishNow_58 rfl ?_
          refine k_callVr (st := []) (as := [.int (iI (3))]) dX8_addWishNow_59 oX8_bad w_1884 w_1886 w_35 rfl (by omega) rfl (Nat.le_of_ble_eq_true rfl) (by decide) (s_123 hsh) rfl (c8_bad hsh) ?_
          refine k_eqσ (σ' := (k_up σ 123 (k_u1 (σ 123) 8 (3)))) ((show k_up σ 123 (k_u1 (σ 123) 8 (3)) = (k_up σ 123 (k_u1 (σ 123) 8 (3))) from rfl)).symm ?_
          exact k_retiP dX8_addWishNow_62 rfl rfl rfl (show (-1 ≤ (0 : Int) ∧ (0 : Int) ≤ 1000) ∧ k_MA (k_up σ 123 (k_u1 (σ 123) 8 (3))) from ⟨by omega, ⟨(show k_F0 (k_u1 (σ 123) 8 (3)) from (k_F0_u (hMA).1 (by omega))), (hMA).2.1, (hMA).2.2.1, (hMA).2.2.2.1, (hMA).2.2.2.2.1, (hMA).2.2.2.2.2.1, (hMA).2.2.2.2.2.2.1, (hMA).2.2.2.2.2.2.2.1, (hMA).2.2.2.2.2.2.2.2.1, (hMA).2.2.2.2.2.2.2.2.2.1, (hMA).2.2.2.2.2.2.2.2.2.2.1, (hMA).2.2.2.2.2.2.2.2.2.2.2.1, (hMA).2.2.2.2.2.2.2.2.2.2.2.2⟩⟩)
        · have h10 := zb_0.mp h10
          refine k_iff (F := (k_pP sh R_addWishNow)) h10 ?_
          refine k_aload_n dX8_addWishNow_44 0 rfl rfl (by decide) ?_
          refine k_get (kf := 0) (v := .ref 124) dX8_addWishNow_45 kcX8 w_1747 (by decide) (by decide) (s_123 hsh) rfl rfl ?_
          refine k_bipush (v := 93) dX8_addWishNow_48 (by decide) ?_
          refine k_iload_n dX8_addWishNow_50 1 rfl rfl ?_
          refine k_iadd dX8_addWishNow_51 ?_
          refine k_iald dX8_addWishNow_52 (by decide) (s_124 hsh) (by omega) (by omega) (by decide) ?_
          have q12 := k_Mo_res (hMA).2.1 (x := 93 + p) (by omega) (by omega)
          refine k_iload_n dX8_addWishNow_53 2 rfl rfl ?_
          refine k_icmp_ne (tgt := 63) dX8_addWishNow_54 rfl ⟨by omega, by omega⟩ ⟨by omega, by omega⟩ (fun h13 => ?_) (fun h13 => ?_)
          · refine k_iff (F := (k_pP sh R_addWishNow)) h13 ?_
            refine k_aload_n dX8_addWishNow_63 0 rfl rfl (by decide) ?_
            refine k_get (kf := 0) (v := .ref 124) dX8_addWishNow_64 kcX8 w_1747 (by decide) (by decide) (s_123 hsh) rfl rfl ?_
            refine k_bipush (v := 57) dX8_addWishNow_67 (by decide) ?_
            refine k_iconst (v := 3) dX8_addWishNow_69 rfl ?_
            refine k_iload_n dX8_addWishNow_70 1 rfl rfl ?_
            refine k_imul dX8_addWishNow_71 ?_
            refine k_iadd dX8_addWishNow_72 ?_
            refine k_aload_n dX8_addWishNow_73 0 rfl rfl (by decide) ?_
            refine k_get (kf := 0) (v := .ref 124) dX8_addWishNow_74 kcX8 w_1747 (by decide) (by decide) (s_123 hsh) rfl rfl ?_
            refine k_bipush (v := 45) dX8_addWishNow_77 (by decide) ?_
            refine k_iload_n dX8_addWishNow_79 1 rfl rfl ?_
            refine k_iadd dX8_addWishNow_80 ?_
            refine k_iald dX8_addWishNow_81 (by decide) (s_124 hsh) (by omega) (by omega) (by decide) ?_
            have q14 := k_Mo_many (hMA).2.1 (x := 45 + p) (by omega) (by omega)
            refine k_iadd dX8_addWishNow_82 ?_
            refine k_iload_n dX8_addWishNow_83 2 rfl rfl ?_
            refine k_iastW dX8_addWishNow_84 (by decide) (s_124 hsh) (by omega) (by omega) (by decide) ?_
            refine k_eqσ (σ' := (k_up σ 124 (k_u1 (σ 124) ((57 + (3 * p)) + ((σ 124) (45 + p).toNat)).toNat (s)))) rfl ?_
            refine k_aload_n dX8_addWishNow_85 0 rfl rfl (by decide) ?_
            refine k_get (kf := 0) (v := .ref 124) dX8_addWishNow_86 kcX8 w_1747 (by decide) (by decide) (s_123 hsh) rfl rfl ?_
            refine k_bipush (v := 45) dX8_addWishNow_89 (by decide) ?_
            refine k_iload_n dX8_addWishNow_91 1 rfl rfl ?_
            refine k_iadd dX8_addWishNow_92 ?_
            refine k_dup2 dX8_addWishNow_93 rfl rfl ?_
            refine k_iald dX8_addWishNow_94 (by decide) (s_124 hsh) (by omega) (by omega) (by decide) ?_
            refine k_eqst (st' := [.int (iI ((σ 124) (45 + p).toNat)), .int (iI (45 + p)), .ref 124]) (congrArg (fun z : Int => Value.int (iI z) :: [.int (iI (45 + p)), .ref 124]) (show (σ 124) (45 + p).toNat = (k_u1 (σ 124) ((57 + (3 * p)) + ((σ 124) (45 + p).toNat)).toNat (s)) (45 + p).toNat from ((k_u1_ne (by omega))).symm)) ?_
            have q15 := k_Mo_many (show k_Mo (k_u1 (σ 124) ((57 + (3 * p)) + ((σ 124) (45 + p).toNat)).toNat (s)) from (k_Mo_u (hMA).2.1 (by omega))) (x := 45 + p) (by omega) (by omega)
            refine k_iconst (v := 1) dX8_addWishNow_95 rfl ?_
            refine k_iadd dX8_addWishNow_96 ?_
            refine k_iastW dX8_addWishNow_97 (by decide) (s_124 hsh) (by omega) (by omega) (by decide) ?_
            refine k_eqσ (σ' := (k_up σ 124 (k_u1 (k_u1 (σ 124) ((57 + (3 * p)) + ((σ 124) (45 + p).toNat)).toNat (s)) (45 + p).toNat (((σ 124) (45 + p).toNat) + 1)))) (show k_up (k_up σ 124 (k_u1 (σ 124) ((57 + (3 * p)) + ((σ 124) (45 + p).toNat)).toNat (s))) 124 (k_u1 (k_u1 (σ 124) ((57 + (3 * p)) + ((σ 124) (45 + p).toNat)).toNat (s)) (45 + p).toNat (((σ 124) (45 + p).toNat) + 1)) = _ from k_up_up).symm ?_
            refine k_aload_n dX8_addWishNow_98 0 rfl rfl (by decide) ?_
            refine k_get (kf := 0) (v := .ref 124) dX8_addWishNow_99 kcX8 w_1747 (by decide) (by decide) (s_123 hsh) rfl rfl ?_
            refine k_bipush (v := 45) dX8_addWishNow_102 (by decide) ?_
            refine k_iload_n dX8_addWishNow_104 1 rfl rfl ?_
            refine k_iadd dX8_addWishNow_105 ?_
            refine k_iald dX8_addWishNow_106 (by decide) (s_124 hsh) (by omega) (by omega) (by decide) ?_
            refine k_eqst (st' := [.int (iI (((σ 124) (45 + p).toNat) + 1))]) (congrArg (fun z : Int => Value.int (iI z) :: []) (show ((σ 124) (45 + p).toNat) + 1 = (k_u1 (k_u1 (σ 124) ((57 + (3 * p)) + ((σ 124) (45 + p).toNat)).toNat (s)) (45 + p).toNat (((σ 124) (45 + p).toNat) + 1)) (45 + p).toNat from (k_u1_same).symm)) ?_
            have q16 := k_Mo_many (show k_Mo (k_u1 (k_u1 (σ 124) ((57 + (3 * p)) + ((σ 124) (45 + p).toNat)).toNat (s)) (45 + p).toNat (((σ 124) (45 + p).toNat) + 1)) from (k_Mo_u (show k_Mo (k_u1 (σ 124) ((57 + (3 * p)) + ((σ 124) (45 + p).toNat)).toNat (s)) from (k_Mo_u (hMA).2.1 (by omega))) (by omega))) (x := 45 + p) (by omega) (by omega)
            exact k_retiP dX8_addWishNow_107 rfl rfl rfl (show (-1 ≤ ((σ 124) (45 + p).toNat) + 1 ∧ ((σ 124) (45 + p).toNat) + 1 ≤ 1000) ∧ k_MA (k_up σ 124 (k_u1 (k_u1 (σ 124) ((57 + (3 * p)) + ((σ 124) (45 + p).toNat)).toNat (s)) (45 + p).toNat (((σ 124) (45 + p).toNat) + 1))) from ⟨by omega, ⟨(hMA).1, (show k_Mo (k_u1 (k_u1 (σ 124) ((57 + (3 * p)) + ((σ 124) (45 + p).toNat)).toNat (s)) (45 + p).toNat (((σ 124) (45 + p).toNat) + 1)) from (k_Mo_u (show k_Mo (k_u1 (σ 124) ((57 + (3 * p)) + ((σ 124) (45 + p).toNat)).toNat (s)) from (k_Mo_u (hMA).2.1 (by omega))) (by omega))), (hMA).2.2.1, (hMA).2.2.2.1, (hMA).2.2.2.2.1, (hMA).2.2.2.2.2.1, (hMA).2.2.2.2.2.2.1, (hMA).2.2.2.2.2.2.2.1, (hMA).2.2.2.2.2.2.2.2.1, (hMA).2.2.2.2.2.2.2.2.2.1, (hMA).2.2.2.2.2.2.2.2.2.2.1, (hMA).2.2.2.2.2.2.2.2.2.2.2.1, (hMA).2.2.2.2.2.2.2.2.2.2.2.2⟩⟩)
          · refine k_ift (F := (k_pP sh R_addWishNow)) h13 ?_
            refine k_aload_n dX8_addWishNow_57 0 rfl rfl (by decide) ?_
            refine k_iconst (v := 3) dX8_addWishNow_58 rfl ?_
            refine k_callVr (st := []) (as := [.int (iI (3))]) dX8_addWishNow_59 oX8_bad w_1884 w_1886 w_35 rfl (by omega) rfl (Nat.le_of_ble_eq_true rfl) (by decide) (s_123 hsh) rfl (c8_bad hsh) ?_
            refine k_eqσ (σ' := (k_up σ 123 (k_u1 (σ 123) 8 (3)))) ((show k_up σ 123 (k_u1 (σ 123) 8 (3)) = (k_up σ 123 (k_u1 (σ 123) 8 (3))) from rfl)).symm ?_
            exact k_retiP dX8_addWishNow_62 rfl rfl rfl (show (-1 ≤ (0 : Int) ∧ (0 : Int) ≤ 1000) ∧ k_MA (k_up σ 123 (k_u1 (σ 123) 8 (3))) from ⟨by omega, ⟨(show k_F0 (k_u1 (σ 123) 8 (3)) from (k_F0_u (hMA).1 (by omega))), (hMA).2.1, (hMA).2.2.1, (hMA).2.2.2.1, (hMA).2.2.2.2.1, (hMA).2.2.2.2.2.1, (hMA).2.2.2.2.2.2.1, (hMA).2.2.2.2.2.2.2.1, (hMA).2.2.2.2.2.2.2.2.1, (hMA).2.2.2.2.2.2.2.2.2.1, (hMA).2.2.2.2.2.2.2.2.2.2.1, (hMA).2.2.2.2.2.2.2.2.2.2.2.1, (hMA).2.2.2.2.2.2.2.2.2.2.2.2⟩⟩)
    · have h5 := zb_0.mp h5
      refine k_iff (F := (k_pP sh R_addWishNow)) h5 ?_
      refine k_aload_n dX8_addWishNow_16 0 rfl rfl (by decide) ?_
      refine k_iconst (v := 1) dX8_addWishNow_17 rfl ?_
      refine k_callVr (st := []) (as := [.int (iI (1))]) dX8_addWishNow_18 oX8_bad w_1884 w_1886 w_35 rfl (by omega) rfl (Nat.le_of_ble_eq_true rfl) (by decide) (s_123 hsh) rfl (c8_bad hsh) ?_
      refine k_eqσ (σ' := (k_up σ 123 (k_u1 (σ 123) 8 (1)))) ((show k_up σ 123 (k_u1 (σ 123) 8 (1)) = (k_up σ 123 (k_u1 (σ 123) 8 (1))) from rfl)).symm ?_
      exact k_retiP dX8_addWishNow_21 rfl rfl rfl (show (-1 ≤ (0 : Int) ∧ (0 : Int) ≤ 1000) ∧ k_MA (k_up σ 123 (k_u1 (σ 123) 8 (1))) from ⟨by omega, ⟨(show k_F0 (k_u1 (σ 123) 8 (1)) from (k_F0_u (hMA).1 (by omega))), (hMA).2.1, (hMA).2.2.1, (hMA).2.2.2.1, (hMA).2.2.2.2.1, (hMA).2.2.2.2.2.1, (hMA).2.2.2.2.2.2.1, (hMA).2.2.2.2.2.2.2.1, (hMA).2.2.2.2.2.2.2.2.1, (hMA).2.2.2.2.2.2.2.2.2.1, (hMA).2.2.2.2.2.2.2.2.2.2.1, (hMA).2.2.2.2.2.2.2.2.2.2.2.1, (hMA).2.2.2.2.2.2.2.2.2.2.2.2⟩⟩)
abbrev R_setReserveNow (t : Int × (Nat → Nat → Int)) : Prop := (-1 ≤ t.1 ∧ t.1 ≤ 1000) ∧ k_MA t.2
def m_setReserveNow (σ : Nat → Nat → Int) (p : Int) (s : Int) : Int × (Nat → Nat → Int) := if 0 ≤ p ∧ p < (σ 124) 2 then if 0 ≤ s ∧ s < (σ 124) 0 then if m_isWish (σ 124) p s = true then (0, (k_up σ 123 (k_u1 (σ 123) 8 (3)))) else if ((σ 124) (93 + p).toNat) = s then (0, (k_up σ 123 (k_u1 (σ 123) 8 (3)))) else ((σ 124) (93 + p).toNat, (k_up σ 124 (k_u1 (σ 124) (93 + p).toNat (s)))) else (0, (k_up σ 123 (k_u1 (σ 123) 8 (1)))) else (0, (k_up σ 123 (k_u1 (σ 123) 8 (1))))
set_option maxRecDepth 100000 in
set_option maxHeartbeats 4000000 in
theorem c8_setReserveNow (hsh : k_Main sh) (hMA : k_MA σ) {p s : Int} (h_p : -2147483648 ≤ p ∧ p < 2147483648) (h_s : -2147483648 ≤ s ∧ s < 2147483648) : k_C E mX8_setReserveNow 4 [.ref 123, .int (iI (p)), .int (iI (s))] sh σ 0 0 ((k_pP sh R_setReserveNow) (m_setReserveNow σ p s)) := by
  refine k_C_of (ls0 := [(0, .ref 123), (1, .int (iI (p))), (2, .int (iI (s)))]) rfl pnX8 (fun v hv => k_cat1 rfl hv) (Nat.le_of_ble_eq_true rfl) rfl ?_
  obtain ⟨⟨t0, t0b⟩, ⟨t1, t1b⟩, ⟨t2, t2b⟩, ⟨t3, t3b⟩, -⟩ := id hMA.2.1
  obtain ⟨⟨f14_0, g14_0⟩, ⟨f14_1, g14_1⟩, ⟨f14_2, g14_2⟩, ⟨f14_3, g14_3⟩, ⟨f14_4, g14_4⟩, ⟨f14_5, g14_5⟩, ⟨f14_6, g14_6⟩, ⟨f14_7, g14_7⟩, ⟨f14_8, g14_8⟩, ⟨f14_9, g14_9⟩, ⟨f14_10, g14_10⟩, ⟨f14_11, g14_11⟩, ⟨f14_12, g14_12⟩, ⟨f14_13, g14_13⟩⟩ := id hMA.1
  unfold m_setReserveNow
  refine k_aload_n dX8_setReserveNow_0 0 rfl rfl (by decide) ?_
  refine k_iload_n dX8_setReserveNow_1 1 rfl rfl ?_
  refine k_callVr (st := []) (as := [.int (iI (p))]) dX8_setReserveNow_2 oX8_isPupil w_1992 w_1994 w_49 rfl (by omega) rfl (Nat.le_of_ble_eq_true rfl) (by decide) (s_123 hsh) rfl (c8_isPupil (σ := σ) hsh (hMA).2.1 ⟨by omega, by omega⟩) ?_
  refine k_if_eq (tgt := 16) dX8_setReserveNow_5 rfl (zb_kr _) (fun h2 => ?_) (fun h2 => ?_)
  · have h2 := zb_0.mp h2
    refine k_iff (F := (k_pP sh R_setReserveNow)) h2 ?_
    refine k_aload_n dX8_setReserveNow_16 0 rfl rfl (by decide) ?_
    refine k_iconst (v := 1) dX8_setReserveNow_17 rfl ?_
    refine k_callVr (st := []) (as := [.int (iI (1))]) dX8_setReserveNow_18 oX8_bad w_1884 w_1886 w_35 rfl (by omega) rfl (Nat.le_of_ble_eq_true rfl) (by decide) (s_123 hsh) rfl (c8_bad hsh) ?_
    refine k_eqσ (σ' := (k_up σ 123 (k_u1 (σ 123) 8 (1)))) ((show k_up σ 123 (k_u1 (σ 123) 8 (1)) = (k_up σ 123 (k_u1 (σ 123) 8 (1))) from rfl)).symm ?_
    exact k_retiP dX8_setReserveNow_21 rfl rfl rfl (show (-1 ≤ (0 : Int) ∧ (0 : Int) ≤ 1000) ∧ k_MA (k_up σ 123 (k_u1 (σ 123) 8 (1))) from ⟨by omega, ⟨(show k_F0 (k_u1 (σ 123) 8 (1)) from (k_F0_u (hMA).1 (by omega))), (hMA).2.1, (hMA).2.2.1, (hMA).2.2.2.1, (hMA).2.2.2.2.1, (hMA).2.2.2.2.2.1, (hMA).2.2.2.2.2.2.1, (hMA).2.2.2.2.2.2.2.1, (hMA).2.2.2.2.2.2.2.2.1, (hMA).2.2.2.2.2.2.2.2.2.1, (hMA).2.2.2.2.2.2.2.2.2.2.1, (hMA).2.2.2.2.2.2.2.2.2.2.2.1, (hMA).2.2.2.2.2.2.2.2.2.2.2.2⟩⟩)
  · have h2 := zb_n0.mp h2
    refine k_ift (F := (k_pP sh R_setReserveNow)) h2 ?_
    refine k_aload_n dX8_setReserveNow_8 0 rfl rfl (by decide) ?_
    refine k_iload_n dX8_setReserveNow_9 2 rfl rfl ?_
    refine k_callVr (st := []) (as := [.int (iI (s))]) dX8_setReserveNow_10 oX8_isSubject w_1900 w_1902 w_38 rfl (by omega) rfl (Nat.le_of_ble_eq_true rfl) (by decide) (s_123 hsh) rfl (c8_isSubject (σ := σ) hsh (hMA).2.1 ⟨by omega, by omega⟩) ?_
    refine k_if_ne (tgt := 22) dX8_setReserveNow_13 rfl (zb_kr _) (fun h5 => ?_) (fun h5 => ?_)
    · have h5 := zb_n0.mp h5
      refine k_ift (F := (k_pP sh R_setReserveNow)) h5 ?_
      refine k_aload_n dX8_setReserveNow_22 0 rfl rfl (by decide) ?_
      refine k_iload_n dX8_setReserveNow_23 1 rfl rfl ?_
      refine k_iload_n dX8_setReserveNow_24 2 rfl rfl ?_
      refine k_callVrP (st := []) (as := [.int (iI (p)), .int (iI (s))]) dX8_setReserveNow_25 oX8_isWish w_1996 w_1998 w_50 rfl (by omega) rfl (Nat.le_of_ble_eq_true rfl) (by decide) (s_123 hsh) rfl (c8_isWish hsh (hMA).2.1 (by omega) (by omega)) (fun z6 => ?_)
      refine k_if_ne (tgt := 44) dX8_setReserveNow_28 rfl (zb_kr _) (fun h7 => ?_) (fun h7 => ?_)
      · have h7 := zb_n0.mp h7
        refine k_ift (F := (k_pP sh R_setReserveNow)) h7 ?_
        refine k_aload_n dX8_setReserveNow_44 0 rfl rfl (by decide) ?_
        refine k_iconst (v := 3) dX8_setReserveNow_45 rfl ?_
        refine k_callVr (st := []) (as := [.int (iI (3))]) dX8_setReserveNow_46 oX8_bad w_1884 w_1886 w_35 rfl (by omega) rfl (Nat.le_of_ble_eq_true rfl) (by decide) (s_123 hsh) rfl (c8_bad hsh) ?_
        refine k_eqσ (σ' := (k_up σ 123 (k_u1 (σ 123) 8 (3)))) ((show k_up σ 123 (k_u1 (σ 123) 8 (3)) = (k_up σ 123 (k_u1 (σ 123) 8 (3))) from rfl)).symm ?_
        exact k_retiP dX8_setReserveNow_49 rfl rfl rfl (show (-1 ≤ (0 : Int) ∧ (0 : Int) ≤ 1000) ∧ k_MA (k_up σ 123 (k_u1 (σ 123) 8 (3))) from ⟨by omega, ⟨(show k_F0 (k_u1 (σ 123) 8 (3)) from (k_F0_u (hMA).1 (by omega))), (hMA).2.1, (hMA).2.2.1, (hMA).2.2.2.1, (hMA).2.2.2.2.1, (hMA).2.2.2.2.2.1, (hMA).2.2.2.2.2.2.1, (hMA).2.2.2.2.2.2.2.1, (hMA).2.2.2.2.2.2.2.2.1, (hMA).2.2.2.2.2.2.2.2.2.1, (hMA).2.2.2.2.2.2.2.2.2.2.1, (hMA).2.2.2.2.2.2.2.2.2.2.2.1, (hMA).2.2.2.2.2.2.2.2.2.2.2.2⟩⟩)
      · have h7 := zb_0.mp h7
        refine k_iff (F := (k_pP sh R_setReserveNow)) h7 ?_
        refine k_aload_n dX8_setReserveNow_31 0 rfl rfl (by decide) ?_
        refine k_get (kf := 0) (v := .ref 124) dX8_setReserveNow_32 kcX8 w_1747 (by decide) (by decide) (s_123 hsh) rfl rfl ?_
        refine k_bipush (v := 93) dX8_setReserveNow_35 (by decide) ?_
        refine k_iload_n dX8_setReserveNow_37 1 rfl rfl ?_
        refine k_iadd dX8_setReserveNow_38 ?_
        refine k_iald dX8_setReserveNow_39 (by decide) (s_124 hsh) (by omega) (by omega) (by decide) ?_
        have q9 := k_Mo_res (hMA).2.1 (x := 93 + p) (by omega) (by omega)
        refine k_iload_n dX8_setReserveNow_40 2 rfl rfl ?_
        refine k_icmp_ne (tgt := 50) dX8_setReserveNow_41 rfl ⟨by omega, by omega⟩ ⟨by omega, by omega⟩ (fun h10 => ?_) (fun h10 => ?_)
        · refine k_iff (F := (k_pP sh R_setReserveNow)) h10 ?_
          refine k_aload_n dX8_setReserveNow_50 0 rfl rfl (by decide) ?_
          refine k_get (kf := 0) (v := .ref 124) dX8_setReserveNow_51 kcX8 w_1747 (by decide) (by decide) (s_123 hsh) rfl rfl ?_
          refine k_bipush (v := 93) dX8_setReserveNow_54 (by decide) ?_
          refine k_iload_n dX8_setReserveNow_56 1 rfl rfl ?_
          refine k_iadd dX8_setReserveNow_57 ?_
          refine k_iald dX8_setReserveNow_58 (by decide) (s_124 hsh) (by omega) (by omega) (by decide) ?_
          have q11 := k_Mo_res (hMA).2.1 (x := 93 + p) (by omega) (by omega)
          refine k_istore_n (ls' := [(0, .ref 123), (1, .int (iI (p))), (2, .int (iI (s))), (3, .int (iI ((σ 124) (93 + p).toNat)))]) dX8_setReserveNow_59 rfl (by decide) rfl rfl ?_
          refine k_aload_n dX8_setReserveNow_60 0 rfl rfl (by decide) ?_
          refine k_get (kf := 0) (v := .ref 124) dX8_setReserveNow_61 kcX8 w_1747 (by decide) (by decide) (s_123 hsh) rfl rfl ?_
          refine k_bipush (v := 93) dX8_setReserveNow_64 (by decide) ?_
          refine k_iload_n dX8_setReserveNow_66 1 rfl rfl ?_
          refine k_iadd dX8_setReserveNow_67 ?_
          refine k_iload_n dX8_setReserveNow_68 2 rfl rfl ?_
          refine k_iastW dX8_setReserveNow_69 (by decide) (s_124 hsh) (by omega) (by omega) (by decide) ?_
          refine k_eqσ (σ' := (k_up σ 124 (k_u1 (σ 124) (93 + p).toNat (s)))) rfl ?_
          refine k_iload_n dX8_setReserveNow_70 3 rfl rfl ?_
          exact k_retiP dX8_setReserveNow_71 rfl rfl rfl (show (-1 ≤ (σ 124) (93 + p).toNat ∧ (σ 124) (93 + p).toNat ≤ 1000) ∧ k_MA (k_up σ 124 (k_u1 (σ 124) (93 + p).toNat (s))) from ⟨by omega, ⟨(hMA).1, (show k_Mo (k_u1 (σ 124) (93 + p).toNat (s)) from (k_Mo_u (hMA).2.1 (by omega))), (hMA).2.2.1, (hMA).2.2.2.1, (hMA).2.2.2.2.1, (hMA).2.2.2.2.2.1, (hMA).2.2.2.2.2.2.1, (hMA).2.2.2.2.2.2.2.1, (hMA).2.2.2.2.2.2.2.2.1, (hMA).2.2.2.2.2.2.2.2.2.1, (hMA).2.2.2.2.2.2.2.2.2.2.1, (hMA).2.2.2.2.2.2.2.2.2.2.2.1, (hMA).2.2.2.2.2.2.2.2.2.2.2.2⟩⟩)
        · refine k_ift (F := (k_pP sh R_setReserveNow)) h10 ?_
          refine k_aload_n dX8_setReserveNow_44 0 rfl rfl (by decide) ?_
          refine k_iconst (v := 3) dX8_setReserveNow_45 rfl ?_
          refine k_callVr (st := []) (as := [.int (iI (3))]) dX8_setReserveNow_46 oX8_bad w_1884 w_1886 w_35 rfl (by omega) rfl (Nat.le_of_ble_eq_true rfl) (by decide) (s_123 hsh) rfl (c8_bad hsh) ?_
          refine k_eqσ (σ' := (k_up σ 123 (k_u1 (σ 123) 8 (3)))) ((show k_up σ 123 (k_u1 (σ 123) 8 (3)) = (k_up σ 123 (k_u1 (σ 123) 8 (3))) from rfl)).symm ?_
          exact k_retiP dX8_setReserveNow_49 rfl rfl rfl (show (-1 ≤ (0 : Int) ∧ (0 : Int) ≤ 1000) ∧ k_MA (k_up σ 123 (k_u1 (σ 123) 8 (3))) from ⟨by omega, ⟨(show k_F0 (k_u1 (σ 123) 8 (3)) from (k_F0_u (hMA).1 (by omega))), (hMA).2.1, (hMA).2.2.1, (hMA).2.2.2.1, (hMA).2.2.2.2.1, (hMA).2.2.2.2.2.1, (hMA).2.2.2.2.2.2.1, (hMA).2.2.2.2.2.2.2.1, (hMA).2.2.2.2.2.2.2.2.1, (hMA).2.2.2.2.2.2.2.2.2.1, (hMA).2.2.2.2.2.2.2.2.2.2.1, (hMA).2.2.2.2.2.2.2.2.2.2.2.1, (hMA).2.2.2.2.2.2.2.2.2.2.2.2⟩⟩)
    · have h5 := zb_0.mp h5
      refine k_iff (F := (k_pP sh R_setReserveNow)) h5 ?_
      refine k_aload_n dX8_setReserveNow_16 0 rfl rfl (by decide) ?_
      refine k_iconst (v := 1) dX8_setReserveNow_17 rfl ?_
      refine k_callVr (st := []) (as := [.int (iI (1))]) dX8_setReserveNow_18 oX8_bad w_1884 w_1886 w_35 rfl (by omega) rfl (Nat.le_of_ble_eq_true rfl) (by decide) (s_123 hsh) rfl (c8_bad hsh) ?_
      refine k_eqσ (σ' := (k_up σ 123 (k_u1 (σ 123) 8 (1)))) ((show k_up σ 123 (k_u1 (σ 123) 8 (1)) = (k_up σ 123 (k_u1 (σ 123) 8 (1))) from rfl)).symm ?_
      exact k_retiP dX8_setReserveNow_21 rfl rfl rfl (show (-1 ≤ (0 : Int) ∧ (0 : Int) ≤ 1000) ∧ k_MA (k_up σ 123 (k_u1 (σ 123) 8 (1))) from ⟨by omega, ⟨(show k_F0 (k_u1 (σ 123) 8 (1)) from (k_F0_u (hMA).1 (by omega))), (hMA).2.1, (hMA).2.2.1, (hMA).2.2.2.1, (hMA).2.2.2.2.1, (hMA).2.2.2.2.2.1, (hMA).2.2.2.2.2.2.1, (hMA).2.2.2.2.2.2.2.1, (hMA).2.2.2.2.2.2.2.2.1, (hMA).2.2.2.2.2.2.2.2.2.1, (hMA).2.2.2.2.2.2.2.2.2.2.1, (hMA).2.2.2.2.2.2.2.2.2.2.2.1, (hMA).2.2.2.2.2.2.2.2.2.2.2.2⟩⟩)
end K_M2
