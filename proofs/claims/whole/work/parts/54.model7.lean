/-! ===== THE MODEL: the mean ===== -/
section K_M7
variable {E : k_E} {M : k_M} {dp pc k n : Nat} {ls : List (Nat × Value)} {st : List Value} {sh : List k_Sh} {σ τ : Nat → Nat → Int} {r : Nat → Int} {Q : k_Q}
theorem k_dconst0 (hd : decode M.2.1 pc = .ok (.dconst 0, 1)) (kk : k_V E M dp (pc + 1) ls (.double FP.dconst0 :: st) sh σ k n Q) : k_V E M dp pc ls st sh σ k n Q := by
  intro N0 ad0 p e R s m args below meth c H locs cells slots lsC ad mc ms C X hl
  exact lv_dconst0 C.1 C.2.1 hd (kk N0 ad0 p e R s m args below meth c H locs cells slots lsC ad mc ms C X hl)
def k_pD (sh : List k_Sh) (R : UInt64 × (Nat → Nat → Int) → Prop) (t : UInt64 × (Nat → Nat → Int)) : k_Q := k_retP (some (.double t.1)) sh t.2 (R t)
theorem k_retdP {e e' : UInt64} {R : Prop} {σ' : Nat → Nat → Int} (hd : decode M.2.1 pc = .ok (.dreturn, 1)) (hr : M.2.2.2.1 = some .double) (hσ : σ' = σ) (he : e = e') (hR : R) : k_V E M dp pc ls [.double e] sh σ' k n (k_retP (some (.double e')) sh σ R) := k_ret_d hd hr ⟨by rw [he], rfl, hσ, hR⟩
abbrev R_meanClassSize (t : UInt64 × (Nat → Nat → Int)) : Prop := k_MA t.2
def r_meanClassSize_32 (σ : Nat → Nat → Int) (x6 : Int) (x32 : Int) : UInt64 × (Nat → Nat → Int) := if x6 = 0 then if x6 = 0 then (FP.dconst0, (k_up σ 123 (k_u1 (σ 123) 7 (1)))) else (f_mean (x32) (x6), (k_up σ 123 (k_u1 (σ 123) 7 (1)))) else if x6 = 0 then (FP.dconst0, (k_up σ 123 (k_u1 (σ 123) 7 (0)))) else (f_mean (x32) (x6), (k_up σ 123 (k_u1 (σ 123) 7 (0))))
def b_meanClassSize_32 (σ : Nat → Nat → Int) (x6 : Int) (i32 : Nat) (x32 : Int) : Int := x32 + (m_classesOf (σ 124) (i32 : Int))
def r_meanClassSize_6 (σ : Nat → Nat → Int) (x6 : Int) : UInt64 × (Nat → Nat → Int) := (r_meanClassSize_32 σ x6) (k_it (b_meanClassSize_32 σ x6) (((σ 124) 2).toNat) 0 (0))
def b_meanClassSize_6 (σ : Nat → Nat → Int) (i6 : Nat) (x6 : Int) : Int := x6 + (m_openOf (σ 124) (i6 : Int))
def m_meanClassSize (σ : Nat → Nat → Int) : UInt64 × (Nat → Nat → Int) := (r_meanClassSize_6 σ) (k_it (b_meanClassSize_6 σ) (((σ 124) 0).toNat) 0 (0))
set_option maxRecDepth 100000 in
set_option maxHeartbeats 4000000 in
theorem c8_meanClassSize (hsh : k_Main sh) (hMA : k_MA σ) : k_C E mX8_meanClassSize 4 [.ref 123] sh σ 0 0 ((k_pD sh R_meanClassSize) (m_meanClassSize σ)) := by
  refine k_C_of (ls0 := [(0, .ref 123)]) rfl pnX8 (fun v hv => k_cat1 rfl hv) (Nat.le_of_ble_eq_true rfl) rfl ?_
  obtain ⟨⟨t0, t0b⟩, ⟨t1, t1b⟩, ⟨t2, t2b⟩, ⟨t3, t3b⟩, -⟩ := id hMA.2.1
  obtain ⟨⟨f12_0, g12_0⟩, ⟨f12_1, g12_1⟩, ⟨f12_2, g12_2⟩, ⟨f12_3, g12_3⟩, ⟨f12_4, g12_4⟩, ⟨f12_5, g12_5⟩, ⟨f12_6, g12_6⟩, ⟨f12_7, g12_7⟩, ⟨f12_8, g12_8⟩, ⟨f12_9, g12_9⟩, ⟨f12_10, g12_10⟩, ⟨f12_11, g12_11⟩, ⟨f12_12, g12_12⟩, ⟨f12_13, g12_13⟩⟩ := id hMA.1
  unfold m_meanClassSize
  refine k_iconst (v := 0) dX8_meanClassSize_0 rfl ?_
  refine k_istore_n (ls' := [(0, .ref 123), (1, .int (iI (0)))]) dX8_meanClassSize_1 rfl (by decide) rfl rfl ?_
  refine k_iconst (v := 0) dX8_meanClassSize_2 rfl ?_
  refine k_istore_n (ls' := [(0, .ref 123), (1, .int (iI (0))), (2, .int (iI (0)))]) dX8_meanClassSize_3 rfl (by decide) rfl rfl ?_
  refine k_iconst (v := 0) dX8_meanClassSize_4 rfl ?_
  refine k_istore_n (ls' := [(0, .ref 123), (1, .int (iI (0))), (2, .int (iI (0))), (3, .int (iI (0)))]) dX8_meanClassSize_5 rfl (by decide) rfl rfl ?_
  refine k_loop (α := Int) (P := fun (i6 : Nat) (x6 : Int) Q => k_V E mX8_meanClassSize _ 6 [(0, .ref 123), (1, .int (iI (x6))), (2, .int (iI (0))), (3, .int (iI ((i6 : Int))))] [] sh σ _ _ Q) (J := fun (i6 : Nat) (x6 : Int) => 0 ≤ x6 ∧ x6 ≤ 4 * (i6 : Int)) (((σ 124) 0).toNat) (b_meanClassSize_6 σ) (0) (F := fun t => (k_pD sh R_meanClassSize) ((r_meanClassSize_6 σ) t)) (show 0 ≤ (0 : Int) ∧ (0 : Int) ≤ 4 * ((0 : Nat) : Int) from by omega) ?_ ?_
  · intro x6 hJ6
    have hJ6 : 0 ≤ x6 ∧ x6 ≤ 4 * ((((σ 124) 0).toNat : Nat) : Int) := hJ6
    have hU6 := hJ6
    show k_V E mX8_meanClassSize _ 6 [(0, .ref 123), (1, .int (iI (x6))), (2, .int (iI (0))), (3, .int (iI (((((σ 124) 0).toNat : Nat) : Int))))] [] sh σ _ _ ((k_pD sh R_meanClassSize) ((r_meanClassSize_6 σ) x6))
    unfold r_meanClassSize_6
    refine k_iload_n dX8_meanClassSize_6 3 rfl rfl ?_
    refine k_aload_n dX8_meanClassSize_7 0 rfl rfl (by decide) ?_
    refine k_get (kf := 0) (v := .ref 124) dX8_meanClassSize_8 kcX8 w_1747 (by decide) (by decide) (s_123 hsh) rfl rfl ?_
    refine k_iconst (v := 0) dX8_meanClassSize_11 rfl ?_
    refine k_iald dX8_meanClassSize_12 (by decide) (s_124 hsh) (by omega) (by omega) (by decide) ?_
    refine k_eqst (st' := [.int (iI ((σ 124) 0)), .int (iI (((((σ 124) 0).toNat : Nat) : Int)))]) rfl ?_
    refine k_icmp_ge (tgt := 30) dX8_meanClassSize_13 rfl ⟨by omega, by omega⟩ ⟨by omega, by omega⟩ (fun h2 => ?_) (fun h2 => absurd h2 (by omega))
    refine k_iconst (v := 0) dX8_meanClassSize_30 rfl ?_
    refine k_istore_n (ls' := [(0, .ref 123), (1, .int (iI (x6))), (2, .int (iI (0))), (3, .int (iI (0)))]) dX8_meanClassSize_31 rfl (by decide) rfl rfl ?_
    refine k_loop (α := Int) (P := fun (i32 : Nat) (x32 : Int) Q => k_V E mX8_meanClassSize _ 32 [(0, .ref 123), (1, .int (iI (x6))), (2, .int (iI (x32))), (3, .int (iI ((i32 : Int))))] [] sh σ _ _ Q) (J := fun (i32 : Nat) (x32 : Int) => 0 ≤ x32 ∧ x32 ≤ 4 * (i32 : Int)) (((σ 124) 2).toNat) (b_meanClassSize_32 σ x6) (0) (F := fun t => (k_pD sh R_meanClassSize) ((r_meanClassSize_32 σ x6) t)) (show 0 ≤ (0 : Int) ∧ (0 : Int) ≤ 4 * ((0 : Nat) : Int) from by omega) ?_ ?_
    · intro x32 hJ32
      have hJ32 : 0 ≤ x32 ∧ x32 ≤ 4 * ((((σ 124) 2).toNat : Nat) : Int) := hJ32
      have hU32 := hJ32
      show k_V E mX8_meanClassSize _ 32 [(0, .ref 123), (1, .int (iI (x6))), (2, .int (iI (x32))), (3, .int (iI (((((σ 124) 2).toNat : Nat) : Int))))] [] sh σ _ _ ((k_pD sh R_meanClassSize) ((r_meanClassSize_32 σ x6) x32))
      unfold r_meanClassSize_32
      refine k_iload_n dX8_meanClassSize_32 3 rfl rfl ?_
      refine k_aload_n dX8_meanClassSize_33 0 rfl rfl (by decide) ?_
      refine k_get (kf := 0) (v := .ref 124) dX8_meanClassSize_34 kcX8 w_1747 (by decide) (by decide) (s_123 hsh) rfl rfl ?_
      refine k_iconst (v := 2) dX8_meanClassSize_37 rfl ?_
      refine k_iald dX8_meanClassSize_38 (by decide) (s_124 hsh) (by omega) (by omega) (by decide) ?_
      refine k_eqst (st' := [.int (iI ((σ 124) 2)), .int (iI (((((σ 124) 2).toNat : Nat) : Int)))]) rfl ?_
      refine k_icmp_ge (tgt := 56) dX8_meanClassSize_39 rfl ⟨by omega, by omega⟩ ⟨by omega, by omega⟩ (fun h4 => ?_) (fun h4 => absurd h4 (by omega))
      refine k_aload_n dX8_meanClassSize_56 0 rfl rfl (by decide) ?_
      refine k_iload_n dX8_meanClassSize_57 1 rfl rfl ?_
      refine k_if_ne (tgt := 65) dX8_meanClassSize_58 rfl ⟨by omega, by omega⟩ (fun h5 => ?_) (fun h5 => ?_)
      · refine k_iff (F := (k_pD sh R_meanClassSize)) h5 ?_
        refine k_iconst (v := 0) dX8_meanClassSize_65 rfl ?_
        refine k_putfW (kf := 7) dX8_meanClassSize_66 kcX8 w_1754 (by decide) (by decide) (s_123 hsh) rfl rfl rfl rfl ?_
        refine k_eqσ (σ' := (k_up σ 123 (k_u1 (σ 123) 7 (0)))) rfl ?_
        refine k_iload_n dX8_meanClassSize_69 1 rfl rfl ?_
        refine k_if_ne (tgt := 77) dX8_meanClassSize_70 rfl ⟨by omega, by omega⟩ (fun h6 => ?_) (fun h6 => ?_)
        · refine k_iff (F := (k_pD sh R_meanClassSize)) h6 ?_
          refine k_iload_n dX8_meanClassSize_77 2 rfl rfl ?_
          refine k_i2d (v := FP.i2d ((iI (x32)))) dX8_meanClassSize_78 rfl ?_
          refine k_iload_n dX8_meanClassSize_79 1 rfl rfl ?_
          refine k_i2d (v := FP.i2d ((iI (x6)))) dX8_meanClassSize_80 rfl ?_
          refine k_ddiv dX8_meanClassSize_81 (f_meanN (p := x32) (c := x6) ⟨by omega, by omega⟩ ⟨by omega, by omega⟩) ?_
          refine k_eqst (st' := [.double (f_mean (x32) (x6))]) rfl ?_
          exact k_retdP dX8_meanClassSize_82 rfl rfl rfl (show k_MA (k_up σ 123 (k_u1 (σ 123) 7 (0))) from ⟨(show k_F0 (k_u1 (σ 123) 7 (0)) from (k_F0_u (hMA).1 (by omega))), (hMA).2.1, (hMA).2.2.1, (hMA).2.2.2.1, (hMA).2.2.2.2.1, (hMA).2.2.2.2.2.1, (hMA).2.2.2.2.2.2.1, (hMA).2.2.2.2.2.2.2.1, (hMA).2.2.2.2.2.2.2.2.1, (hMA).2.2.2.2.2.2.2.2.2.1, (hMA).2.2.2.2.2.2.2.2.2.2.1, (hMA).2.2.2.2.2.2.2.2.2.2.2.1, (hMA).2.2.2.2.2.2.2.2.2.2.2.2⟩)
        · refine k_ift (F := (k_pD sh R_meanClassSize)) h6 ?_
          refine k_dconst0 dX8_meanClassSize_73 ?_
          refine k_goto (tgt := 82) dX8_meanClassSize_74 rfl ?_
          exact k_retdP dX8_meanClassSize_82 rfl rfl rfl (show k_MA (k_up σ 123 (k_u1 (σ 123) 7 (0))) from ⟨(show k_F0 (k_u1 (σ 123) 7 (0)) from (k_F0_u (hMA).1 (by omega))), (hMA).2.1, (hMA).2.2.1, (hMA).2.2.2.1, (hMA).2.2.2.2.1, (hMA).2.2.2.2.2.1, (hMA).2.2.2.2.2.2.1, (hMA).2.2.2.2.2.2.2.1, (hMA).2.2.2.2.2.2.2.2.1, (hMA).2.2.2.2.2.2.2.2.2.1, (hMA).2.2.2.2.2.2.2.2.2.2.1, (hMA).2.2.2.2.2.2.2.2.2.2.2.1, (hMA).2.2.2.2.2.2.2.2.2.2.2.2⟩)
      · refine k_ift (F := (k_pD sh R_meanClassSize)) h5 ?_
        refine k_iconst (v := 1) dX8_meanClassSize_61 rfl ?_
        refine k_goto (tgt := 66) dX8_meanClassSize_62 rfl ?_
        refine k_putfW (kf := 7) dX8_meanClassSize_66 kcX8 w_1754 (by decide) (by decide) (s_123 hsh) rfl rfl rfl rfl ?_
        refine k_eqσ (σ' := (k_up σ 123 (k_u1 (σ 123) 7 (1)))) rfl ?_
        refine k_iload_n dX8_meanClassSize_69 1 rfl rfl ?_
        refine k_if_ne (tgt := 77) dX8_meanClassSize_70 rfl ⟨by omega, by omega⟩ (fun h7 => ?_) (fun h7 => ?_)
        · refine k_iff (F := (k_pD sh R_meanClassSize)) h7 ?_
          refine k_iload_n dX8_meanClassSize_77 2 rfl rfl ?_
          refine k_i2d (v := FP.i2d ((iI (x32)))) dX8_meanClassSize_78 rfl ?_
          refine k_iload_n dX8_meanClassSize_79 1 rfl rfl ?_
          refine k_i2d (v := FP.i2d ((iI (x6)))) dX8_meanClassSize_80 rfl ?_
          refine k_ddiv dX8_meanClassSize_81 (f_meanN (p := x32) (c := x6) ⟨by omega, by omega⟩ ⟨by omega, by omega⟩) ?_
          refine k_eqst (st' := [.double (f_mean (x32) (x6))]) rfl ?_
          exact k_retdP dX8_meanClassSize_82 rfl rfl rfl (show k_MA (k_up σ 123 (k_u1 (σ 123) 7 (1))) from ⟨(show k_F0 (k_u1 (σ 123) 7 (1)) from (k_F0_u (hMA).1 (by omega))), (hMA).2.1, (hMA).2.2.1, (hMA).2.2.2.1, (hMA).2.2.2.2.1, (hMA).2.2.2.2.2.1, (hMA).2.2.2.2.2.2.1, (hMA).2.2.2.2.2.2.2.1, (hMA).2.2.2.2.2.2.2.2.1, (hMA).2.2.2.2.2.2.2.2.2.1, (hMA).2.2.2.2.2.2.2.2.2.2.1, (hMA).2.2.2.2.2.2.2.2.2.2.2.1, (hMA).2.2.2.2.2.2.2.2.2.2.2.2⟩)
        · refine k_ift (F := (k_pD sh R_meanClassSize)) h7 ?_
          refine k_dconst0 dX8_meanClassSize_73 ?_
          refine k_goto (tgt := 82) dX8_meanClassSize_74 rfl ?_
          exact k_retdP dX8_meanClassSize_82 rfl rfl rfl (show k_MA (k_up σ 123 (k_u1 (σ 123) 7 (1))) from ⟨(show k_F0 (k_u1 (σ 123) 7 (1)) from (k_F0_u (hMA).1 (by omega))), (hMA).2.1, (hMA).2.2.1, (hMA).2.2.2.1, (hMA).2.2.2.2.1, (hMA).2.2.2.2.2.1, (hMA).2.2.2.2.2.2.1, (hMA).2.2.2.2.2.2.2.1, (hMA).2.2.2.2.2.2.2.2.1, (hMA).2.2.2.2.2.2.2.2.2.1, (hMA).2.2.2.2.2.2.2.2.2.2.1, (hMA).2.2.2.2.2.2.2.2.2.2.2.1, (hMA).2.2.2.2.2.2.2.2.2.2.2.2⟩)
    · intro n32 i32 x32 hi32 hJ32 ih32
      have hJ32 : 0 ≤ x32 ∧ x32 ≤ 4 * (i32 : Int) := hJ32
      have hU32 := hJ32
      show k_V E mX8_meanClassSize _ 32 [(0, .ref 123), (1, .int (iI (x6))), (2, .int (iI (x32))), (3, .int (iI ((i32 : Int))))] [] sh σ _ _ ((fun t => (k_pD sh R_meanClassSize) ((r_meanClassSize_32 σ x6) (k_it (b_meanClassSize_32 σ x6) n32 (i32 + 1) t))) ((b_meanClassSize_32 σ x6) i32 x32))
      unfold b_meanClassSize_32
      refine k_iload_n dX8_meanClassSize_32 3 rfl rfl ?_
      refine k_aload_n dX8_meanClassSize_33 0 rfl rfl (by decide) ?_
      refine k_get (kf := 0) (v := .ref 124) dX8_meanClassSize_34 kcX8 w_1747 (by decide) (by decide) (s_123 hsh) rfl rfl ?_
      refine k_iconst (v := 2) dX8_meanClassSize_37 rfl ?_
      refine k_iald dX8_meanClassSize_38 (by decide) (s_124 hsh) (by omega) (by omega) (by decide) ?_
      refine k_eqst (st' := [.int (iI ((σ 124) 2)), .int (iI ((i32 : Int)))]) rfl ?_
      refine k_icmp_ge (tgt := 56) dX8_meanClassSize_39 rfl ⟨by omega, by omega⟩ ⟨by omega, by omega⟩ (fun h8 => absurd h8 (by omega)) (fun h8 => ?_)
      refine k_iload_n dX8_meanClassSize_42 2 rfl rfl ?_
      refine k_aload_n dX8_meanClassSize_43 0 rfl rfl (by decide) ?_
      refine k_iload_n dX8_meanClassSize_44 3 rfl rfl ?_
      refine k_callVrP (st := [.int (iI (x32))]) (as := [.int (iI ((i32 : Int)))]) dX8_meanClassSize_45 oX8_classesOf w_2044 w_2046 w_55 rfl (by omega) rfl (Nat.le_of_ble_eq_true rfl) (by decide) (s_123 hsh) rfl (c8_classesOf hsh (hMA).2.1 (by omega)) (fun z9 => ?_)
      have z9 : 0 ≤ m_classesOf (σ 124) (i32 : Int) ∧ m_classesOf (σ 124) (i32 : Int) ≤ 4 := z9
      refine k_iadd dX8_meanClassSize_48 ?_
      refine k_istore_n (ls' := [(0, .ref 123), (1, .int (iI (x6))), (2, .int (iI (x32 + (m_classesOf (σ 124) (i32 : Int))))), (3, .int (iI ((i32 : Int))))]) dX8_meanClassSize_49 rfl (by decide) rfl rfl ?_
      refine k_iinc (ls' := [(0, .ref 123), (1, .int (iI (x6))), (2, .int (iI (x32 + (m_classesOf (σ 124) (i32 : Int))))), (3, .int (iI ((i32 : Int) + 1)))]) dX8_meanClassSize_50 3 rfl (by decide) rfl rfl ?_
      refine k_goto (tgt := 32) dX8_meanClassSize_53 rfl ?_
      exact ih32 (x32 + (m_classesOf (σ 124) (i32 : Int))) (show 0 ≤ x32 + (m_classesOf (σ 124) (i32 : Int)) ∧ x32 + (m_classesOf (σ 124) (i32 : Int)) ≤ 4 * ((i32 + 1 : Nat) : Int) from by omega)
  · intro n6 i6 x6 hi6 hJ6 ih6
    have hJ6 : 0 ≤ x6 ∧ x6 ≤ 4 * (i6 : Int) := hJ6
    have hU6 := hJ6
    show k_V E mX8_meanClassSize _ 6 [(0, .ref 123), (1, .int (iI (x6))), (2, .int (iI (0))), (3, .int (iI ((i6 : Int))))] [] sh σ _ _ ((fun t => (k_pD sh R_meanClassSize) ((r_meanClassSize_6 σ) (k_it (b_meanClassSize_6 σ) n6 (i6 + 1) t))) ((b_meanClassSize_6 σ) i6 x6))
    unfold b_meanClassSize_6
    refine k_iload_n dX8_meanClassSize_6 3 rfl rfl ?_
    refine k_aload_n dX8_meanClassSize_7 0 rfl rfl (by decide) ?_
    refine k_get (kf := 0) (v := .ref 124) dX8_meanClassSize_8 kcX8 w_1747 (by decide) (by decide) (s_123 hsh) rfl rfl ?_
    refine k_iconst (v := 0) dX8_meanClassSize_11 rfl ?_
    refine k_iald dX8_meanClassSize_12 (by decide) (s_124 hsh) (by omega) (by omega) (by decide) ?_
    refine k_eqst (st' := [.int (iI ((σ 124) 0)), .int (iI ((i6 : Int)))]) rfl ?_
    refine k_icmp_ge (tgt := 30) dX8_meanClassSize_13 rfl ⟨by omega, by omega⟩ ⟨by omega, by omega⟩ (fun h10 => absurd h10 (by omega)) (fun h10 => ?_)
    refine k_iload_n dX8_meanClassSize_16 1 rfl rfl ?_
    refine k_aload_n dX8_meanClassSize_17 0 rfl rfl (by decide) ?_
    refine k_iload_n dX8_meanClassSize_18 3 rfl rfl ?_
    refine k_callVrP (st := [.int (iI (x6))]) (as := [.int (iI ((i6 : Int)))]) dX8_meanClassSize_19 oX8_openOf w_1948 w_1950 w_45 rfl (by omega) rfl (Nat.le_of_ble_eq_true rfl) (by decide) (s_123 hsh) rfl (c8_openOf hsh (hMA).2.1 (by omega)) (fun z11 => ?_)
    have z11 : 0 ≤ m_openOf (σ 124) (i6 : Int) ∧ m_openOf (σ 124) (i6 : Int) ≤ 4 := z11
    refine k_iadd dX8_meanClassSize_22 ?_
    refine k_istore_n (ls' := [(0, .ref 123), (1, .int (iI (x6 + (m_openOf (σ 124) (i6 : Int))))), (2, .int (iI (0))), (3, .int (iI ((i6 : Int))))]) dX8_meanClassSize_23 rfl (by decide) rfl rfl ?_
    refine k_iinc (ls' := [(0, .ref 123), (1, .int (iI (x6 + (m_openOf (σ 124) (i6 : Int))))), (2, .int (iI (0))), (3, .int (iI ((i6 : Int) + 1)))]) dX8_meanClassSize_24 3 rfl (by decide) rfl rfl ?_
    refine k_goto (tgt := 6) dX8_meanClassSize_27 rfl ?_
    exact ih6 (x6 + (m_openOf (σ 124) (i6 : Int))) (show 0 ≤ x6 + (m_openOf (σ 124) (i6 : Int)) ∧ x6 + (m_openOf (σ 124) (i6 : Int)) ≤ 4 * ((i6 + 1 : Nat) : Int) from by omega)
end K_M7
