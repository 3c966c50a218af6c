/-! ===== THE FACE: what asks ===== -/
section K_FC
variable {E : k_E} {sh : List k_Sh} {σ : Nat → Nat → Int}
def r_then (o : Option Value ⊕ String) (v : Value) : Option Value ⊕ String := match o with
  | .inl _ => .inl (some v)
  | .inr X => .inr X
/-- what the planner's own numbers keep to -/
def k_Fc (σ : Nat → Nat → Int) : Prop := (-1 ≤ σ 0 11 ∧ σ 0 11 ≤ 100) ∧ (-1 ≤ σ 0 12 ∧ σ 0 12 ≤ 100) ∧ (0 ≤ σ 0 13 ∧ σ 0 13 ≤ 4) ∧ (0 ≤ σ 23 4 ∧ σ 23 4 ≤ 4) ∧ (0 ≤ σ 0 10 ∧ σ 0 10 ≤ 1)
set_option maxHeartbeats 4000000 in
theorem c7_subjectCount (hsh : k_Main sh) (hI : k_Ty σ)  : k_C E mX7_subjectCount 8 [.ref 0] sh σ 1 6 (k_rx (.inl (some (.int (iI (σ 1 0))))) sh (σ)) := by
  refine k_C_of (ls0 := [(0, .ref 0)]) rfl pnX7 (fun v hv => k_cat1 rfl hv) (Nat.le_of_ble_eq_true rfl) rfl ?_
  obtain ⟨t0, t1, t2, t3, t4, t5, t6, t7, t8, t9, t10, t11⟩ := id hI
  refine k_aload_n dX7_subjectCount_0 0 rfl rfl (by decide) ?_
  refine k_get (kf := 0) (v := .ref 1) dX7_subjectCount_1 kcX7 w_358 (by decide) (by decide) (s_0 hsh) rfl rfl ?_
  refine k_getN (kf := 0) (v := .int (iI (σ 1 0))) dX7_subjectCount_4 kcX5 w_132 (by decide) (by decide) (s_1 hsh) rfl rfl ?_
  exact k_ret_i dX7_subjectCount_7 rfl ⟨(by (repeat' split) <;> first | rfl | (exfalso; omega) | (exfalso; simp_all; done) | (simp_all; done) | (exfalso; simp_all; omega)), rfl, (rfl)⟩
set_option maxHeartbeats 4000000 in
theorem c7_blockCount (hsh : k_Main sh) (hI : k_Ty σ)  : k_C E mX7_blockCount 8 [.ref 0] sh σ 1 6 (k_rx (.inl (some (.int (iI (σ 1 1))))) sh (σ)) := by
  refine k_C_of (ls0 := [(0, .ref 0)]) rfl pnX7 (fun v hv => k_cat1 rfl hv) (Nat.le_of_ble_eq_true rfl) rfl ?_
  obtain ⟨t0, t1, t2, t3, t4, t5, t6, t7, t8, t9, t10, t11⟩ := id hI
  refine k_aload_n dX7_blockCount_0 0 rfl rfl (by decide) ?_
  refine k_get (kf := 0) (v := .ref 1) dX7_blockCount_1 kcX7 w_358 (by decide) (by decide) (s_0 hsh) rfl rfl ?_
  refine k_getN (kf := 1) (v := .int (iI (σ 1 1))) dX7_blockCount_4 kcX5 w_136 (by decide) (by decide) (s_1 hsh) rfl rfl ?_
  exact k_ret_i dX7_blockCount_7 rfl ⟨(by (repeat' split) <;> first | rfl | (exfalso; omega) | (exfalso; simp_all; done) | (simp_all; done) | (exfalso; simp_all; omega)), rfl, (rfl)⟩
set_option maxHeartbeats 4000000 in
theorem c7_pupilCount (hsh : k_Main sh) (hI : k_Ty σ)  : k_C E mX7_pupilCount 8 [.ref 0] sh σ 1 6 (k_rx (.inl (some (.int (iI (σ 1 2))))) sh (σ)) := by
  refine k_C_of (ls0 := [(0, .ref 0)]) rfl pnX7 (fun v hv => k_cat1 rfl hv) (Nat.le_of_ble_eq_true rfl) rfl ?_
  obtain ⟨t0, t1, t2, t3, t4, t5, t6, t7, t8, t9, t10, t11⟩ := id hI
  refine k_aload_n dX7_pupilCount_0 0 rfl rfl (by decide) ?_
  refine k_get (kf := 0) (v := .ref 1) dX7_pupilCount_1 kcX7 w_358 (by decide) (by decide) (s_0 hsh) rfl rfl ?_
  refine k_getN (kf := 2) (v := .int (iI (σ 1 2))) dX7_pupilCount_4 kcX5 w_141 (by decide) (by decide) (s_1 hsh) rfl rfl ?_
  exact k_ret_i dX7_pupilCount_7 rfl ⟨(by (repeat' split) <;> first | rfl | (exfalso; omega) | (exfalso; simp_all; done) | (simp_all; done) | (exfalso; simp_all; omega)), rfl, (rfl)⟩
set_option maxHeartbeats 4000000 in
theorem c7_sizeOf (hsh : k_Main sh) (hI : k_Ty σ) {s : Int} (hs : -2147483648 ≤ s ∧ s < 2147483648) : k_C E mX7_sizeOf 8 [.ref 0, .int (iI (s))] sh σ 1 6 (k_rx (if 0 ≤ s ∧ s < σ 1 0 then .inl (some (.int (iI (σ 2 s.toNat)))) else .inr x_io) sh (σ)) := by
  refine k_C_of (ls0 := [(0, .ref 0), (1, .int (iI (s)))]) rfl pnX7 (fun v hv => k_cat1 rfl hv) (Nat.le_of_ble_eq_true rfl) rfl ?_
  obtain ⟨t0, t1, t2, t3, t4, t5, t6, t7, t8, t9, t10, t11⟩ := id hI
  refine k_aload_n dX7_sizeOf_0 0 rfl rfl (by decide) ?_
  refine k_get (kf := 0) (v := .ref 1) dX7_sizeOf_1 kcX7 w_358 (by decide) (by decide) (s_0 hsh) rfl rfl ?_
  refine k_iload_n dX7_sizeOf_4 1 rfl rfl ?_
  refine k_callVr (st := []) (as := [.int (iI (s))]) dX7_sizeOf_5 oX5_hasSubject w_943 w_488 w_489 rfl (by omega) rfl (Nat.le_of_ble_eq_true rfl) (by decide) (s_1 hsh) rfl (c_hasSubject hsh hI ⟨by omega, by omega⟩) ?_
  refine k_needIz (k := 0) (n := 0) (st := []) dX7_sizeOf_8 w_944 w_945 rfl (by omega) (Nat.le_of_ble_eq_true rfl) (fun h_1 => ?_) (fun h_1 => ⟨(by (repeat' split) <;> first | rfl | (exfalso; omega) | (exfalso; simp_all; done) | (simp_all; done) | (exfalso; simp_all; omega)), rfl, (rfl)⟩)
  refine k_aload_n dX7_sizeOf_11 0 rfl rfl (by decide) ?_
  refine k_get (kf := 0) (v := .ref 1) dX7_sizeOf_12 kcX7 w_358 (by decide) (by decide) (s_0 hsh) rfl rfl ?_
  refine k_getN (kf := 3) (v := .ref 2) dX7_sizeOf_15 kcX5 w_143 (by decide) (by decide) (s_1 hsh) rfl rfl ?_
  refine k_iload_n dX7_sizeOf_18 1 rfl rfl ?_
  refine k_callSr (st := []) (as := [.ref 2, .int (iI (s))]) dX7_sizeOf_19 oX7_read w_947 w_460 rfl (by omega) rfl (Nat.le_of_ble_eq_true rfl) (c_readIn (by decide) (s_2 hsh) (by decide) (by omega) (by omega)) ?_
  exact k_ret_i dX7_sizeOf_22 rfl ⟨(by (repeat' split) <;> first | rfl | (exfalso; omega) | (exfalso; simp_all; done) | (simp_all; done) | (exfalso; simp_all; omega)), rfl, (rfl)⟩
set_option maxHeartbeats 4000000 in
theorem c7_isOpen (hsh : k_Main sh) (hI : k_Ty σ) {s b : Int} (hs : -2147483648 ≤ s ∧ s < 2147483648) (hb : -2147483648 ≤ b ∧ b < 2147483648) : k_C E mX7_isOpen 8 [.ref 0, .int (iI (s)), .int (iI (b))] sh σ 1 6 (k_rx (if (0 ≤ s ∧ s < σ 1 0) ∧ (0 ≤ b ∧ b < σ 1 1) then .inl (some (.int (iI (zb (z_bit (f_open σ s) b = true))))) else .inr x_io) sh (σ)) := by
  refine k_C_of (ls0 := [(0, .ref 0), (1, .int (iI (s))), (2, .int (iI (b)))]) rfl pnX7 (fun v hv => k_cat1 rfl hv) (Nat.le_of_ble_eq_true rfl) rfl ?_
  obtain ⟨t0, t1, t2, t3, t4, t5, t6, t7, t8, t9, t10, t11⟩ := id hI
  have q1 := f_open_r hI s
  refine k_aload_n dX7_isOpen_0 0 rfl rfl (by decide) ?_
  refine k_get (kf := 0) (v := .ref 1) dX7_isOpen_1 kcX7 w_358 (by decide) (by decide) (s_0 hsh) rfl rfl ?_
  refine k_iload_n dX7_isOpen_4 1 rfl rfl ?_
  refine k_iload_n dX7_isOpen_5 2 rfl rfl ?_
  refine k_callVr (st := []) (as := [.int (iI (s)), .int (iI (b))]) dX7_isOpen_6 oX5_hasClass w_976 w_521 w_522 rfl (by omega) rfl (Nat.le_of_ble_eq_true rfl) (by decide) (s_1 hsh) rfl (c_hasClass hsh hI ⟨by omega, by omega⟩ ⟨by omega, by omega⟩) ?_
  refine k_needIz (k := 0) (n := 0) (st := []) dX7_isOpen_9 w_944 w_945 rfl (by omega) (Nat.le_of_ble_eq_true rfl) (fun h_1 => ?_) (fun h_1 => ⟨(by (repeat' split) <;> first | rfl | (exfalso; omega) | (exfalso; simp_all; done) | (simp_all; done) | (exfalso; simp_all; omega)), rfl, (rfl)⟩)
  refine k_aload_n dX7_isOpen_12 0 rfl rfl (by decide) ?_
  refine k_get (kf := 0) (v := .ref 1) dX7_isOpen_13 kcX7 w_358 (by decide) (by decide) (s_0 hsh) rfl rfl ?_
  refine k_iload_n dX7_isOpen_16 1 rfl rfl ?_
  refine k_callVr (st := []) (as := [.int (iI (s))]) dX7_isOpen_17 oX5_openBlocks w_977 w_484 w_485 rfl (by omega) rfl (Nat.le_of_ble_eq_true rfl) (by decide) (s_1 hsh) rfl (c_openBlocks hsh hI ⟨by omega, by omega⟩) ?_
  refine k_iload_n dX7_isOpen_20 2 rfl rfl ?_
  refine k_callSr (st := []) (as := [.int (iI (f_open σ s)), .int (iI (b))]) dX7_isOpen_21 oX7_holds w_868 w_463 rfl (by omega) rfl (Nat.le_of_ble_eq_true rfl) (c_holds (by omega) (by omega)) ?_
  refine k_eqst (congrArg (fun z : Int => Value.int (iI z) :: []) (show zb (z_bit (f_open σ s) (b) = true) = zb (0 ≤ b ∧ b < 16 ∧ z_bit (f_open σ s) (b) = true) from (f_holds (by omega) (by omega)).symm)) ?_
  exact k_ret_z dX7_isOpen_24 rfl (k_nar_z (zb_z _)) ⟨(by (repeat' split) <;> first | rfl | (exfalso; omega) | (exfalso; simp_all; done) | (simp_all; done) | (exfalso; simp_all; omega)), rfl, (rfl)⟩
set_option maxHeartbeats 4000000 in
theorem c7_pupilsInClass (hsh : k_Main sh) (hI : k_Ty σ) {s b : Int} (hs : -2147483648 ≤ s ∧ s < 2147483648) (hb : -2147483648 ≤ b ∧ b < 2147483648) : k_C E mX7_pupilsInClass 8 [.ref 0, .int (iI (s)), .int (iI (b))] sh σ 1 6 (k_rx (if (0 ≤ s ∧ s < σ 1 0) ∧ (0 ≤ b ∧ b < σ 1 1) then .inl (some (.int (iI (z_cnt (f_roster σ s b))))) else .inr x_io) sh (σ)) := by
  refine k_C_of (ls0 := [(0, .ref 0), (1, .int (iI (s))), (2, .int (iI (b)))]) rfl pnX7 (fun v hv => k_cat1 rfl hv) (Nat.le_of_ble_eq_true rfl) rfl ?_
  obtain ⟨t0, t1, t2, t3, t4, t5, t6, t7, t8, t9, t10, t11⟩ := id hI
  have q1 := f_roster_r hI s b
  refine k_aload_n dX7_pupilsInClass_0 0 rfl rfl (by decide) ?_
  refine k_get (kf := 0) (v := .ref 1) dX7_pupilsInClass_1 kcX7 w_358 (by decide) (by decide) (s_0 hsh) rfl rfl ?_
  refine k_iload_n dX7_pupilsInClass_4 1 rfl rfl ?_
  refine k_iload_n dX7_pupilsInClass_5 2 rfl rfl ?_
  refine k_callVr (st := []) (as := [.int (iI (s)), .int (iI (b))]) dX7_pupilsInClass_6 oX5_hasClass w_976 w_521 w_522 rfl (by omega) rfl (Nat.le_of_ble_eq_true rfl) (by decide) (s_1 hsh) rfl (c_hasClass hsh hI ⟨by omega, by omega⟩ ⟨by omega, by omega⟩) ?_
  refine k_needIz (k := 0) (n := 0) (st := []) dX7_pupilsInClass_9 w_944 w_945 rfl (by omega) (Nat.le_of_ble_eq_true rfl) (fun h_1 => ?_) (fun h_1 => ⟨(by (repeat' split) <;> first | rfl | (exfalso; omega) | (exfalso; simp_all; done) | (simp_all; done) | (exfalso; simp_all; omega)), rfl, (rfl)⟩)
  refine k_aload_n dX7_pupilsInClass_12 0 rfl rfl (by decide) ?_
  refine k_get (kf := 0) (v := .ref 1) dX7_pupilsInClass_13 kcX7 w_358 (by decide) (by decide) (s_0 hsh) rfl rfl ?_
  refine k_iload_n dX7_pupilsInClass_16 1 rfl rfl ?_
  refine k_iload_n dX7_pupilsInClass_17 2 rfl rfl ?_
  refine k_callVr (st := []) (as := [.int (iI (s)), .int (iI (b))]) dX7_pupilsInClass_18 oX5_roster w_985 w_456 w_457 rfl (by omega) rfl (Nat.le_of_ble_eq_true rfl) (by decide) (s_1 hsh) rfl (c_roster hsh hI ⟨by omega, by omega⟩ ⟨by omega, by omega⟩) ?_
  refine k_callSr (st := []) (as := [.int (iI (f_roster σ s b))]) dX7_pupilsInClass_21 oJ6_bitCount_0f7a4 w_986 w_492 rfl (by omega) rfl (Nat.le_of_ble_eq_true rfl) (c_bitCount ⟨by omega, by omega⟩) ?_
  exact k_ret_i dX7_pupilsInClass_24 rfl ⟨(by (repeat' split) <;> first | rfl | (exfalso; omega) | (exfalso; simp_all; done) | (simp_all; done) | (exfalso; simp_all; omega)), rfl, (rfl)⟩
set_option maxHeartbeats 4000000 in
theorem c7_pupilInClass (hsh : k_Main sh) (hI : k_Ty σ) {s b i : Int} (hs : -2147483648 ≤ s ∧ s < 2147483648) (hb : -2147483648 ≤ b ∧ b < 2147483648) (hi : -2147483648 ≤ i ∧ i < 2147483648) : k_C E mX7_pupilInClass 8 [.ref 0, .int (iI (s)), .int (iI (b)), .int (iI (i))] sh σ 1 6 (k_rx (if (0 ≤ s ∧ s < σ 1 0) ∧ (0 ≤ b ∧ b < σ 1 1) then (if 0 ≤ i ∧ i < z_cnt (f_roster σ s b) then .inl (some (.int (iI (g_memb (f_roster σ s b) i)))) else .inr x_ns) else .inr x_io) sh (σ)) := by
  refine k_C_of (ls0 := [(0, .ref 0), (1, .int (iI (s))), (2, .int (iI (b))), (3, .int (iI (i)))]) rfl pnX7 (fun v hv => k_cat1 rfl hv) (Nat.le_of_ble_eq_true rfl) rfl ?_
  obtain ⟨t0, t1, t2, t3, t4, t5, t6, t7, t8, t9, t10, t11⟩ := id hI
  have q1 := f_roster_r hI s b
  have q2 := z_cnt_r (f_roster σ s b)
  refine k_aload_n dX7_pupilInClass_0 0 rfl rfl (by decide) ?_
  refine k_get (kf := 0) (v := .ref 1) dX7_pupilInClass_1 kcX7 w_358 (by decide) (by decide) (s_0 hsh) rfl rfl ?_
  refine k_iload_n dX7_pupilInClass_4 1 rfl rfl ?_
  refine k_iload_n dX7_pupilInClass_5 2 rfl rfl ?_
  refine k_callVr (st := []) (as := [.int (iI (s)), .int (iI (b))]) dX7_pupilInClass_6 oX5_hasClass w_976 w_521 w_522 rfl (by omega) rfl (Nat.le_of_ble_eq_true rfl) (by decide) (s_1 hsh) rfl (c_hasClass hsh hI ⟨by omega, by omega⟩ ⟨by omega, by omega⟩) ?_
  refine k_needIz (k := 0) (n := 0) (st := []) dX7_pupilInClass_9 w_944 w_945 rfl (by omega) (Nat.le_of_ble_eq_true rfl) (fun h_1 => ?_) (fun h_1 => ⟨(by (repeat' split) <;> first | rfl | (exfalso; omega) | (exfalso; simp_all; done) | (simp_all; done) | (exfalso; simp_all; omega)), rfl, (rfl)⟩)
  refine k_aload_n dX7_pupilInClass_12 0 rfl rfl (by decide) ?_
  refine k_get (kf := 0) (v := .ref 1) dX7_pupilInClass_13 kcX7 w_358 (by decide) (by decide) (s_0 hsh) rfl rfl ?_
  refine k_iload_n dX7_pupilInClass_16 1 rfl rfl ?_
  refine k_iload_n dX7_pupilInClass_17 2 rfl rfl ?_
  refine k_callVr (st := []) (as := [.int (iI (s)), .int (iI (b))]) dX7_pupilInClass_18 oX5_roster w_985 w_456 w_457 rfl (by omega) rfl (Nat.le_of_ble_eq_true rfl) (by decide) (s_1 hsh) rfl (c_roster hsh hI ⟨by omega, by omega⟩ ⟨by omega, by omega⟩) ?_
  refine k_istore (ls' := [(0, .ref 0), (1, .int (iI (s))), (2, .int (iI (b))), (3, .int (iI (i))), (4, .int (iI (f_roster σ s b)))]) dX7_pupilInClass_21 (by decide) rfl rfl ?_
  refine k_iload_n dX7_pupilInClass_23 3 rfl rfl ?_
  refine k_if_lt (tgt := 40) dX7_pupilInClass_24 rfl ⟨by omega, by omega⟩ (fun h_2 => ?_) (fun h_2 => ?_)
  · refine k_iconst (v := 0) dX7_pupilInClass_40 rfl ?_
    exact k_needE0 (k := 0) (n := 0) (st := []) dX7_pupilInClass_41 w_995 w_996 rfl (by omega) (Nat.le_of_ble_eq_true rfl) ⟨(by (repeat' split) <;> first | rfl | (exfalso; omega) | (exfalso; simp_all; done) | (simp_all; done) | (exfalso; simp_all; omega)), rfl, (rfl)⟩
  · refine k_iload_n dX7_pupilInClass_27 3 rfl rfl ?_
    refine k_iload dX7_pupilInClass_28 4 rfl ?_
    refine k_callSr (st := [.int (iI (i))]) (as := [.int (iI (f_roster σ s b))]) dX7_pupilInClass_30 oJ6_bitCount_0f7a4 w_986 w_492 rfl (by omega) rfl (Nat.le_of_ble_eq_true rfl) (c_bitCount ⟨by omega, by omega⟩) ?_
    refine k_icmp_ge (tgt := 40) dX7_pupilInClass_33 rfl ⟨by omega, by omega⟩ ⟨by omega, by omega⟩ (fun h_3 => ?_) (fun h_3 => ?_)
    · refine k_iconst (v := 0) dX7_pupilInClass_40 rfl ?_
      exact k_needE0 (k := 0) (n := 0) (st := []) dX7_pupilInClass_41 w_995 w_996 rfl (by omega) (Nat.le_of_ble_eq_true rfl) ⟨(by (repeat' split) <;> first | rfl | (exfalso; omega) | (exfalso; simp_all; done) | (simp_all; done) | (exfalso; simp_all; omega)), rfl, (rfl)⟩
    · refine k_iconst (v := 1) dX7_pupilInClass_36 rfl ?_
      refine k_goto (tgt := 41) dX7_pupilInClass_37 rfl ?_
      refine k_needE1 (st := []) dX7_pupilInClass_41 w_995 w_996 (by omega) (Nat.le_of_ble_eq_true rfl) ?_
      refine k_iload dX7_pupilInClass_44 4 rfl ?_
      refine k_iload_n dX7_pupilInClass_46 3 rfl rfl ?_
      refine k_callSr (st := []) (as := [.int (iI (f_roster σ s b)), .int (iI (i))]) dX7_pupilInClass_47 oX7_memberAt w_1014 w_866 rfl (by omega) rfl (Nat.le_of_ble_eq_true rfl) (c_memberAt ⟨by omega, by omega⟩ ⟨by omega, by omega⟩ (by omega) (by omega)) ?_
      exact k_ret_i dX7_pupilInClass_50 rfl ⟨(by (repeat' split) <;> first | rfl | (exfalso; omega) | (exfalso; simp_all; done) | (simp_all; done) | (exfalso; simp_all; omega)), rfl, (rfl)⟩
set_option maxHeartbeats 4000000 in
theorem c7_subjectIn (hsh : k_Main sh) (hI : k_Ty σ) {p b : Int} (hp : -2147483648 ≤ p ∧ p < 2147483648) (hb : -2147483648 ≤ b ∧ b < 2147483648) : k_C E mX7_subjectIn 8 [.ref 0, .int (iI (p)), .int (iI (b))] sh σ 1 6 (k_rx (if (0 ≤ p ∧ p < σ 1 2) ∧ (0 ≤ b ∧ b < σ 1 1) then .inl (some (.int (iI (f_lesson σ p b)))) else .inr x_io) sh (σ)) := by
  refine k_C_of (ls0 := [(0, .ref 0), (1, .int (iI (p))), (2, .int (iI (b)))]) rfl pnX7 (fun v hv => k_cat1 rfl hv) (Nat.le_of_ble_eq_true rfl) rfl ?_
  obtain ⟨t0, t1, t2, t3, t4, t5, t6, t7, t8, t9, t10, t11⟩ := id hI
  refine k_aload_n dX7_subjectIn_0 0 rfl rfl (by decide) ?_
  refine k_get (kf := 0) (v := .ref 1) dX7_subjectIn_1 kcX7 w_358 (by decide) (by decide) (s_0 hsh) rfl rfl ?_
  refine k_iload_n dX7_subjectIn_4 1 rfl rfl ?_
  refine k_callVr (st := []) (as := [.int (iI (p))]) dX7_subjectIn_5 oX5_hasPupil w_1043 w_444 w_445 rfl (by omega) rfl (Nat.le_of_ble_eq_true rfl) (by decide) (s_1 hsh) rfl (c_hasPupil hsh hI ⟨by omega, by omega⟩) ?_
  refine k_if_eq (tgt := 26) dX7_subjectIn_8 rfl (zb_kr _) (fun h_1 => ?_) (fun h_1 => ?_)
  · have h_1 := zb_0.mp h_1
    refine k_iconst (v := 0) dX7_subjectIn_26 rfl ?_
    exact k_needI0 (k := 0) (n := 0) (st := []) dX7_subjectIn_27 w_944 w_945 rfl (by omega) (Nat.le_of_ble_eq_true rfl) ⟨(by (repeat' split) <;> first | rfl | (exfalso; omega) | (exfalso; simp_all; done) | (simp_all; done) | (exfalso; simp_all; omega)), rfl, (rfl)⟩
  · have h_1 := zb_n0.mp h_1
    refine k_aload_n dX7_subjectIn_11 0 rfl rfl (by decide) ?_
    refine k_get (kf := 0) (v := .ref 1) dX7_subjectIn_12 kcX7 w_358 (by decide) (by decide) (s_0 hsh) rfl rfl ?_
    refine k_iload_n dX7_subjectIn_15 2 rfl rfl ?_
    refine k_callVr (st := []) (as := [.int (iI (b))]) dX7_subjectIn_16 oX5_hasBlock w_1066 w_525 w_526 rfl (by omega) rfl (Nat.le_of_ble_eq_true rfl) (by decide) (s_1 hsh) rfl (c_hasBlock hsh hI ⟨by omega, by omega⟩) ?_
    refine k_if_eq (tgt := 26) dX7_subjectIn_19 rfl (zb_kr _) (fun h_2 => ?_) (fun h_2 => ?_)
    · have h_2 := zb_0.mp h_2
      refine k_iconst (v := 0) dX7_subjectIn_26 rfl ?_
      exact k_needI0 (k := 0) (n := 0) (st := []) dX7_subjectIn_27 w_944 w_945 rfl (by omega) (Nat.le_of_ble_eq_true rfl) ⟨(by (repeat' split) <;> first | rfl | (exfalso; omega) | (exfalso; simp_all; done) | (simp_all; done) | (exfalso; simp_all; omega)), rfl, (rfl)⟩
    · have h_2 := zb_n0.mp h_2
      refine k_iconst (v := 1) dX7_subjectIn_22 rfl ?_
      refine k_goto (tgt := 27) dX7_subjectIn_23 rfl ?_
      refine k_needI1 (st := []) dX7_subjectIn_27 w_944 w_945 (by omega) (Nat.le_of_ble_eq_true rfl) ?_
      refine k_aload_n dX7_subjectIn_30 0 rfl rfl (by decide) ?_
      refine k_get (kf := 0) (v := .ref 1) dX7_subjectIn_31 kcX7 w_358 (by decide) (by decide) (s_0 hsh) rfl rfl ?_
      refine k_iload_n dX7_subjectIn_34 1 rfl rfl ?_
      refine k_iload_n dX7_subjectIn_35 2 rfl rfl ?_
      refine k_callVr (st := []) (as := [.int (iI (p)), .int (iI (b))]) dX7_subjectIn_36 oX5_lesson w_1067 w_1068 w_1069 rfl (by omega) rfl (Nat.le_of_ble_eq_true rfl) (by decide) (s_1 hsh) rfl (c_lesson hsh hI ⟨by omega, by omega⟩ ⟨by omega, by omega⟩ (by omega)) ?_
      exact k_ret_i dX7_subjectIn_39 rfl ⟨(by (repeat' split) <;> first | rfl | (exfalso; omega) | (exfalso; simp_all; done) | (simp_all; done) | (exfalso; simp_all; omega)), rfl, (rfl)⟩
set_option maxHeartbeats 4000000 in
theorem c7_blockOf (hsh : k_Main sh) (hI : k_Ty σ) {p s : Int} (hp : -2147483648 ≤ p ∧ p < 2147483648) (hs : -2147483648 ≤ s ∧ s < 2147483648) : k_C E mX7_blockOf 8 [.ref 0, .int (iI (p)), .int (iI (s))] sh σ 1 6 (k_rx (if (0 ≤ p ∧ p < σ 1 2) ∧ (0 ≤ s ∧ s < σ 1 0) then .inl (some (.int (iI (f_taken σ p s)))) else .inr x_io) sh (σ)) := by
  refine k_C_of (ls0 := [(0, .ref 0), (1, .int (iI (p))), (2, .int (iI (s)))]) rfl pnX7 (fun v hv => k_cat1 rfl hv) (Nat.le_of_ble_eq_true rfl) rfl ?_
  obtain ⟨t0, t1, t2, t3, t4, t5, t6, t7, t8, t9, t10, t11⟩ := id hI
  refine k_aload_n dX7_blockOf_0 0 rfl rfl (by decide) ?_
  refine k_get (kf := 0) (v := .ref 1) dX7_blockOf_1 kcX7 w_358 (by decide) (by decide) (s_0 hsh) rfl rfl ?_
  refine k_iload_n dX7_blockOf_4 1 rfl rfl ?_
  refine k_callVr (st := []) (as := [.int (iI (p))]) dX7_blockOf_5 oX5_hasPupil w_1043 w_444 w_445 rfl (by omega) rfl (Nat.le_of_ble_eq_true rfl) (by decide) (s_1 hsh) rfl (c_hasPupil hsh hI ⟨by omega, by omega⟩) ?_
  refine k_if_eq (tgt := 26) dX7_blockOf_8 rfl (zb_kr _) (fun h_1 => ?_) (fun h_1 => ?_)
  · have h_1 := zb_0.mp h_1
    refine k_iconst (v := 0) dX7_blockOf_26 rfl ?_
    exact k_needI0 (k := 0) (n := 0) (st := []) dX7_blockOf_27 w_944 w_945 rfl (by omega) (Nat.le_of_ble_eq_true rfl) ⟨(by (repeat' split) <;> first | rfl | (exfalso; omega) | (exfalso; simp_all; done) | (simp_all; done) | (exfalso; simp_all; omega)), rfl, (rfl)⟩
  · have h_1 := zb_n0.mp h_1
    refine k_aload_n dX7_blockOf_11 0 rfl rfl (by decide) ?_
    refine k_get (kf := 0) (v := .ref 1) dX7_blockOf_12 kcX7 w_358 (by decide) (by decide) (s_0 hsh) rfl rfl ?_
    refine k_iload_n dX7_blockOf_15 2 rfl rfl ?_
    refine k_callVr (st := []) (as := [.int (iI (s))]) dX7_blockOf_16 oX5_hasSubject w_943 w_488 w_489 rfl (by omega) rfl (Nat.le_of_ble_eq_true rfl) (by decide) (s_1 hsh) rfl (c_hasSubject hsh hI ⟨by omega, by omega⟩) ?_
    refine k_if_eq (tgt := 26) dX7_blockOf_19 rfl (zb_kr _) (fun h_2 => ?_) (fun h_2 => ?_)
    · have h_2 := zb_0.mp h_2
      refine k_iconst (v := 0) dX7_blockOf_26 rfl ?_
      exact k_needI0 (k := 0) (n := 0) (st := []) dX7_blockOf_27 w_944 w_945 rfl (by omega) (Nat.le_of_ble_eq_true rfl) ⟨(by (repeat' split) <;> first | rfl | (exfalso; omega) | (exfalso; simp_all; done) | (simp_all; done) | (exfalso; simp_all; omega)), rfl, (rfl)⟩
    · have h_2 := zb_n0.mp h_2
      refine k_iconst (v := 1) dX7_blockOf_22 rfl ?_
      refine k_goto (tgt := 27) dX7_blockOf_23 rfl ?_
      refine k_needI1 (st := []) dX7_blockOf_27 w_944 w_945 (by omega) (Nat.le_of_ble_eq_true rfl) ?_
      refine k_aload_n dX7_blockOf_30 0 rfl rfl (by decide) ?_
      refine k_get (kf := 0) (v := .ref 1) dX7_blockOf_31 kcX7 w_358 (by decide) (by decide) (s_0 hsh) rfl rfl ?_
      refine k_iload_n dX7_blockOf_34 1 rfl rfl ?_
      refine k_iload_n dX7_blockOf_35 2 rfl rfl ?_
      refine k_callVr (st := []) (as := [.int (iI (p)), .int (iI (s))]) dX7_blockOf_36 oX5_blockTaken w_1078 w_535 w_536 rfl (by omega) rfl (Nat.le_of_ble_eq_true rfl) (by decide) (s_1 hsh) rfl (c_blockTaken hsh hI ⟨by omega, by omega⟩ ⟨by omega, by omega⟩ (by omega)) ?_
      exact k_ret_i dX7_blockOf_39 rfl ⟨(by (repeat' split) <;> first | rfl | (exfalso; omega) | (exfalso; simp_all; done) | (simp_all; done) | (exfalso; simp_all; omega)), rfl, (rfl)⟩
set_option maxHeartbeats 4000000 in
theorem c7_bestValue (hsh : k_Main sh) (hI : k_Ty σ) (hS : k_Sc σ) {p : Int} (hp : -2147483648 ≤ p ∧ p < 2147483648) : k_C E mX7_bestValue 13 [.ref 0, .int (iI (p))] sh σ 1 6 (k_rx (if 0 ≤ p ∧ p < σ 1 2 then .inl (some (.int (iI ((f_best (u_roomy σ p)).2.2 / 2)))) else .inr x_io) sh (if 0 ≤ p ∧ p < σ 1 2 then u_best (u_roomy σ p) else σ)) := by
  refine k_C_of (ls0 := [(0, .ref 0), (1, .int (iI (p)))]) rfl pnX7 (fun v hv => k_cat1 rfl hv) (Nat.le_of_ble_eq_true rfl) rfl ?_
  obtain ⟨t0, t1, t2, t3, t4, t5, t6, t7, t8, t9, t10, t11⟩ := id hI
  refine k_aload_n dX7_bestValue_0 0 rfl rfl (by decide) ?_
  refine k_get (kf := 0) (v := .ref 1) dX7_bestValue_1 kcX7 w_358 (by decide) (by decide) (s_0 hsh) rfl rfl ?_
  refine k_iload_n dX7_bestValue_4 1 rfl rfl ?_
  refine k_callVr (st := []) (as := [.int (iI (p))]) dX7_bestValue_5 oX5_hasPupil w_1043 w_444 w_445 rfl (by omega) rfl (Nat.le_of_ble_eq_true rfl) (by decide) (s_1 hsh) rfl (c_hasPupil hsh hI ⟨by omega, by omega⟩) ?_
  refine k_needIz (k := 0) (n := 0) (st := []) dX7_bestValue_8 w_944 w_945 rfl (by omega) (Nat.le_of_ble_eq_true rfl) (fun h_1 => ?_) (fun h_1 => ⟨(by (repeat' split) <;> first | rfl | (exfalso; omega) | (exfalso; simp_all; done) | (simp_all; done) | (exfalso; simp_all; omega)), rfl, (by exact (if_neg (by first | assumption | omega)).symm)⟩)
  refine k_aload_n dX7_bestValue_11 0 rfl rfl (by decide) ?_
  refine k_get (kf := 1) (v := .ref 10) dX7_bestValue_12 kcX7 w_359 (by decide) (by decide) (s_0 hsh) rfl rfl ?_
  refine k_iload_n dX7_bestValue_15 1 rfl rfl ?_
  refine k_callVr (st := []) (as := [.int (iI (p))]) dX7_bestValue_16 oX4_valueBySearch w_1110 w_1111 w_1112 rfl (by omega) rfl (Nat.le_of_ble_eq_true rfl) (by decide) (s_10 hsh) rfl (c_valueBySearch hsh hI hS ⟨by omega, by omega⟩ (by omega)) ?_
  exact k_ret_i dX7_bestValue_19 rfl ⟨(by (repeat' split) <;> first | rfl | (exfalso; omega) | (exfalso; simp_all; done) | (simp_all; done) | (exfalso; simp_all; omega)), rfl, (by exact (if_pos (by first | assumption | omega)).symm)⟩
set_option maxHeartbeats 4000000 in
theorem c7_bestValueBySets (hsh : k_Main sh) (hI : k_Ty σ) (hS : k_Sc σ) {p : Int} (hp : -2147483648 ≤ p ∧ p < 2147483648) : k_C E mX7_bestValueBySets 13 [.ref 0, .int (iI (p))] sh σ 1 6 (k_rx (if 0 ≤ p ∧ p < σ 1 2 then .inl (some (.int (iI (f_vbs (u_roomy σ p 11))))) else .inr x_io) sh (if 0 ≤ p ∧ p < σ 1 2 then u_roomy σ p else σ)) := by
  refine k_C_of (ls0 := [(0, .ref 0), (1, .int (iI (p)))]) rfl pnX7 (fun v hv => k_cat1 rfl hv) (Nat.le_of_ble_eq_true rfl) rfl ?_
  obtain ⟨t0, t1, t2, t3, t4, t5, t6, t7, t8, t9, t10, t11⟩ := id hI
  refine k_aload_n dX7_bestValueBySets_0 0 rfl rfl (by decide) ?_
  refine k_get (kf := 0) (v := .ref 1) dX7_bestValueBySets_1 kcX7 w_358 (by decide) (by decide) (s_0 hsh) rfl rfl ?_
  refine k_iload_n dX7_bestValueBySets_4 1 rfl rfl ?_
  refine k_callVr (st := []) (as := [.int (iI (p))]) dX7_bestValueBySets_5 oX5_hasPupil w_1043 w_444 w_445 rfl (by omega) rfl (Nat.le_of_ble_eq_true rfl) (by decide) (s_1 hsh) rfl (c_hasPupil hsh hI ⟨by omega, by omega⟩) ?_
  refine k_needIz (k := 0) (n := 0) (st := []) dX7_bestValueBySets_8 w_944 w_945 rfl (by omega) (Nat.le_of_ble_eq_true rfl) (fun h_1 => ?_) (fun h_1 => ⟨(by (repeat' split) <;> first | rfl | (exfalso; omega) | (exfalso; simp_all; done) | (simp_all; done) | (exfalso; simp_all; omega)), rfl, (by exact (if_neg (by first | assumption | omega)).symm)⟩)
  refine k_aload_n dX7_bestValueBySets_11 0 rfl rfl (by decide) ?_
  refine k_get (kf := 1) (v := .ref 10) dX7_bestValueBySets_12 kcX7 w_359 (by decide) (by decide) (s_0 hsh) rfl rfl ?_
  refine k_iload_n dX7_bestValueBySets_15 1 rfl rfl ?_
  refine k_callVr (st := []) (as := [.int (iI (p))]) dX7_bestValueBySets_16 oX4_valueBySets w_1121 w_1122 w_1123 rfl (by omega) rfl (Nat.le_of_ble_eq_true rfl) (by decide) (s_10 hsh) rfl (c_valueBySets hsh hI hS ⟨by omega, by omega⟩ (by omega)) ?_
  exact k_ret_i dX7_bestValueBySets_19 rfl ⟨(by (repeat' split) <;> first | rfl | (exfalso; omega) | (exfalso; simp_all; done) | (simp_all; done) | (exfalso; simp_all; omega)), rfl, (by exact (if_pos (by first | assumption | omega)).symm)⟩
set_option maxHeartbeats 4000000 in
theorem c7_canServe (hsh : k_Main sh) (hI : k_Ty σ) (hS : k_Sc σ) {p : Int} (hp : -2147483648 ≤ p ∧ p < 2147483648) : k_C E mX7_canServe 13 [.ref 0, .int (iI (p))] sh σ 1 6 (k_rx (if 0 ≤ p ∧ p < σ 1 2 then .inl (some (.int (iI (zb (g_srv (u_open σ p 3 11) (σ 5 p.toNat) 3 0 = true))))) else .inr x_io) sh (if 0 ≤ p ∧ p < σ 1 2 then u_open σ p 3 else σ)) := by
  refine k_C_of (ls0 := [(0, .ref 0), (1, .int (iI (p)))]) rfl pnX7 (fun v hv => k_cat1 rfl hv) (Nat.le_of_ble_eq_true rfl) rfl ?_
  obtain ⟨t0, t1, t2, t3, t4, t5, t6, t7, t8, t9, t10, t11⟩ := id hI
  refine k_aload_n dX7_canServe_0 0 rfl rfl (by decide) ?_
  refine k_get (kf := 0) (v := .ref 1) dX7_canServe_1 kcX7 w_358 (by decide) (by decide) (s_0 hsh) rfl rfl ?_
  refine k_iload_n dX7_canServe_4 1 rfl rfl ?_
  refine k_callVr (st := []) (as := [.int (iI (p))]) dX7_canServe_5 oX5_hasPupil w_1043 w_444 w_445 rfl (by omega) rfl (Nat.le_of_ble_eq_true rfl) (by decide) (s_1 hsh) rfl (c_hasPupil hsh hI ⟨by omega, by omega⟩) ?_
  refine k_needIz (k := 0) (n := 0) (st := []) dX7_canServe_8 w_944 w_945 rfl (by omega) (Nat.le_of_ble_eq_true rfl) (fun h_1 => ?_) (fun h_1 => ⟨(by (repeat' split) <;> first | rfl | (exfalso; omega) | (exfalso; simp_all; done) | (simp_all; done) | (exfalso; simp_all; omega)), rfl, (by exact (if_neg (by first | assumption | omega)).symm)⟩)
  refine k_aload_n dX7_canServe_11 0 rfl rfl (by decide) ?_
  refine k_get (kf := 1) (v := .ref 10) dX7_canServe_12 kcX7 w_359 (by decide) (by decide) (s_0 hsh) rfl rfl ?_
  refine k_iload_n dX7_canServe_15 1 rfl rfl ?_
  refine k_callVr (st := []) (as := [.int (iI (p))]) dX7_canServe_16 oX4_servesBySearch w_1139 w_1140 w_1141 rfl (by omega) rfl (Nat.le_of_ble_eq_true rfl) (by decide) (s_10 hsh) rfl (c_servesBySearch hsh hI hS ⟨by omega, by omega⟩ (by omega)) ?_
  exact k_ret_z dX7_canServe_19 rfl (k_nar_z (zb_z _)) ⟨(by (repeat' split) <;> first | rfl | (exfalso; omega) | (exfalso; simp_all; done) | (simp_all; done) | (exfalso; simp_all; omega)), rfl, (by exact (if_pos (by first | assumption | omega)).symm)⟩
set_option maxHeartbeats 4000000 in
theorem c7_canServeByCounting (hsh : k_Main sh) (hI : k_Ty σ) (hS : k_Sc σ) {p : Int} (hp : -2147483648 ≤ p ∧ p < 2147483648) : k_C E mX7_canServeByCounting 13 [.ref 0, .int (iI (p))] sh σ 1 6 (k_rx (if 0 ≤ p ∧ p < σ 1 2 then .inl (some (.int (iI (zb (f_hall (u_open σ p 3 11) (σ 5 p.toNat)))))) else .inr x_io) sh (if 0 ≤ p ∧ p < σ 1 2 then u_open σ p 3 else σ)) := by
  refine k_C_of (ls0 := [(0, .ref 0), (1, .int (iI (p)))]) rfl pnX7 (fun v hv => k_cat1 rfl hv) (Nat.le_of_ble_eq_true rfl) rfl ?_
  obtain ⟨t0, t1, t2, t3, t4, t5, t6, t7, t8, t9, t10, t11⟩ := id hI
  refine k_aload_n dX7_canServeByCounting_0 0 rfl rfl (by decide) ?_
  refine k_get (kf := 0) (v := .ref 1) dX7_canServeByCounting_1 kcX7 w_358 (by decide) (by decide) (s_0 hsh) rfl rfl ?_
  refine k_iload_n dX7_canServeByCounting_4 1 rfl rfl ?_
  refine k_callVr (st := []) (as := [.int (iI (p))]) dX7_canServeByCounting_5 oX5_hasPupil w_1043 w_444 w_445 rfl (by omega) rfl (Nat.le_of_ble_eq_true rfl) (by decide) (s_1 hsh) rfl (c_hasPupil hsh hI ⟨by omega, by omega⟩) ?_
  refine k_needIz (k := 0) (n := 0) (st := []) dX7_canServeByCounting_8 w_944 w_945 rfl (by omega) (Nat.le_of_ble_eq_true rfl) (fun h_1 => ?_) (fun h_1 => ⟨(by (repeat' split) <;> first | rfl | (exfalso; omega) | (exfalso; simp_all; done) | (simp_all; done) | (exfalso; simp_all; omega)), rfl, (by exact (if_neg (by first | assumption | omega)).symm)⟩)
  refine k_aload_n dX7_canServeByCounting_11 0 rfl rfl (by decide) ?_
  refine k_get (kf := 1) (v := .ref 10) dX7_canServeByCounting_12 kcX7 w_359 (by decide) (by decide) (s_0 hsh) rfl rfl ?_
  refine k_iload_n dX7_canServeByCounting_15 1 rfl rfl ?_
  refine k_callVr (st := []) (as := [.int (iI (p))]) dX7_canServeByCounting_16 oX4_servesByCounting w_1158 w_1159 w_1160 rfl (by omega) rfl (Nat.le_of_ble_eq_true rfl) (by decide) (s_10 hsh) rfl (c_servesByCounting hsh hI hS ⟨by omega, by omega⟩ (by omega)) ?_
  exact k_ret_z dX7_canServeByCounting_19 rfl (k_nar_z (zb_z _)) ⟨(by (repeat' split) <;> first | rfl | (exfalso; omega) | (exfalso; simp_all; done) | (simp_all; done) | (exfalso; simp_all; omega)), rfl, (by exact (if_pos (by first | assumption | omega)).symm)⟩
def f_servedN (σ : Nat → Nat → Int) (n : Nat) : Int := k_fold n (fun p a => a + zb (f_attends σ (p : Int))) 0
theorem f_servedN_r (σ : Nat → Nat → Int) : ∀ n : Nat, 0 ≤ f_servedN σ n ∧ f_servedN σ n ≤ n
  | 0 => ⟨Int.le_refl 0, Int.le_refl 0⟩
  | n + 1 => by
    have ih := f_servedN_r σ n
    have h2 := zb_r (f_attends σ (n : Int))
    show 0 ≤ f_servedN σ n + zb _ ∧ f_servedN σ n + zb _ ≤ ((n + 1 : Nat) : Int)
    omega
set_option maxHeartbeats 4000000 in
theorem c7_servedCount (hsh : k_Main sh) (hI : k_Ty σ)  : k_C E mX7_servedCount 8 [.ref 0] sh σ 1 6 (k_rx (.inl (some (.int (iI (f_servedN σ (σ 1 2).toNat))))) sh (σ)) := by
  refine k_C_of (ls0 := [(0, .ref 0)]) rfl pnX7 (fun v hv => k_cat1 rfl hv) (Nat.le_of_ble_eq_true rfl) rfl ?_
  obtain ⟨t0, t1, t2, t3, t4, t5, t6, t7, t8, t9, t10, t11⟩ := id hI
  refine k_iconst (v := 0) dX7_servedCount_0 rfl ?_
  refine k_istore_n (ls' := [(0, .ref 0), (1, .int (iI (0)))]) dX7_servedCount_1 rfl (by decide) rfl rfl ?_
  refine k_iconst (v := 0) dX7_servedCount_2 rfl ?_
  refine k_istore_n (ls' := [(0, .ref 0), (1, .int (iI (0))), (2, .int (iI (0)))]) dX7_servedCount_3 rfl (by decide) rfl rfl ?_
  refine k_down (P := fun i4 : Nat => k_V E mX7_servedCount _ 4 [(0, .ref 0), (1, .int (iI (f_servedN σ i4))), (2, .int (iI ((i4 : Int))))] [] sh σ _ _ _) ((σ 1 2).toNat) ?_ ?_
  · skip
    have q1 := f_servedN_r σ ((σ 1 2).toNat)
    refine k_iload_n dX7_servedCount_4 2 rfl rfl ?_
    refine k_aload_n dX7_servedCount_5 0 rfl rfl (by decide) ?_
    refine k_get (kf := 0) (v := .ref 1) dX7_servedCount_6 kcX7 w_358 (by decide) (by decide) (s_0 hsh) rfl rfl ?_
    refine k_getN (kf := 2) (v := .int (iI (σ 1 2))) dX7_servedCount_9 kcX5 w_141 (by decide) (by decide) (s_1 hsh) rfl rfl ?_
    refine k_icmp_ge (tgt := 40) dX7_servedCount_12 rfl ⟨by omega, by omega⟩ ⟨by omega, by omega⟩ (fun h_1 => ?_) (fun h_1 => absurd h_1 (by omega))
    refine k_iload_n dX7_servedCount_40 1 rfl rfl ?_
    exact k_ret_i dX7_servedCount_41 rfl ⟨(rfl), rfl, (rfl)⟩
  · intro i4 hi4 ih4
    have q1 := f_servedN_r σ i4
    refine k_iload_n dX7_servedCount_4 2 rfl rfl ?_
    refine k_aload_n dX7_servedCount_5 0 rfl rfl (by decide) ?_
    refine k_get (kf := 0) (v := .ref 1) dX7_servedCount_6 kcX7 w_358 (by decide) (by decide) (s_0 hsh) rfl rfl ?_
    refine k_getN (kf := 2) (v := .int (iI (σ 1 2))) dX7_servedCount_9 kcX5 w_141 (by decide) (by decide) (s_1 hsh) rfl rfl ?_
    refine k_icmp_ge (tgt := 40) dX7_servedCount_12 rfl ⟨by omega, by omega⟩ ⟨by omega, by omega⟩ (fun h_2 => absurd h_2 (by omega)) (fun h_2 => ?_)
    refine k_iload_n dX7_servedCount_15 1 rfl rfl ?_
    refine k_aload_n dX7_servedCount_16 0 rfl rfl (by decide) ?_
    refine k_get (kf := 0) (v := .ref 1) dX7_servedCount_17 kcX7 w_358 (by decide) (by decide) (s_0 hsh) rfl rfl ?_
    refine k_iload_n dX7_servedCount_20 2 rfl rfl ?_
    refine k_callVr (st := [.int (iI (f_servedN σ i4))]) (as := [.int (iI ((i4 : Int)))]) dX7_servedCount_21 oX5_attendsWishes w_529 w_530 w_531 rfl (by omega) rfl (Nat.le_of_ble_eq_true rfl) (by decide) (s_1 hsh) rfl (c_attendsWishes hsh hI ⟨by omega, by omega⟩ (by omega)) ?_
    refine k_if_eq (tgt := 31) dX7_servedCount_24 rfl (zb_kr _) (fun h_3 => ?_) (fun h_3 => ?_)
    · have h_3 := zb_0.mp h_3
      refine k_iconst (v := 0) dX7_servedCount_31 rfl ?_
      refine k_iadd dX7_servedCount_32 ?_
      refine k_istore_n (ls' := [(0, .ref 0), (1, .int (iI ((f_servedN σ i4) + 0))), (2, .int (iI ((i4 : Int))))]) dX7_servedCount_33 rfl (by decide) rfl rfl ?_
      refine k_iinc (ls' := [(0, .ref 0), (1, .int (iI ((f_servedN σ i4) + 0))), (2, .int (iI ((i4 : Int) + 1)))]) dX7_servedCount_34 2 rfl (by decide) rfl rfl ?_
      refine k_goto (tgt := 4) dX7_servedCount_37 rfl ?_
      refine k_lrw (q := 1) (j := 1) (a' := f_servedN σ (i4 + 1)) (ls' := [(0, .ref 0), (1, .int (iI (f_servedN σ (i4 + 1)))), (2, .int (iI ((i4 : Int) + 1)))]) rfl (by show f_servedN σ i4 + _ = f_servedN σ i4 + zb _; first | rw [zb_t h_3] | rw [zb_f h_3]) rfl ?_
      exact ih4
    · have h_3 := zb_n0.mp h_3
      refine k_iconst (v := 1) dX7_servedCount_27 rfl ?_
      refine k_goto (tgt := 32) dX7_servedCount_28 rfl ?_
      refine k_iadd dX7_servedCount_32 ?_
      refine k_istore_n (ls' := [(0, .ref 0), (1, .int (iI ((f_servedN σ i4) + 1))), (2, .int (iI ((i4 : Int))))]) dX7_servedCount_33 rfl (by decide) rfl rfl ?_
      refine k_iinc (ls' := [(0, .ref 0), (1, .int (iI ((f_servedN σ i4) + 1))), (2, .int (iI ((i4 : Int) + 1)))]) dX7_servedCount_34 2 rfl (by decide) rfl rfl ?_
      refine k_goto (tgt := 4) dX7_servedCount_37 rfl ?_
      refine k_lrw (q := 1) (j := 1) (a' := f_servedN σ (i4 + 1)) (ls' := [(0, .ref 0), (1, .int (iI (f_servedN σ (i4 + 1)))), (2, .int (iI ((i4 : Int) + 1)))]) rfl (by show f_servedN σ i4 + _ = f_servedN σ i4 + zb _; first | rw [zb_t h_3] | rw [zb_f h_3]) rfl ?_
      exact ih4
set_option maxHeartbeats 4000000 in
theorem c7_refusalReason (hsh : k_Main sh) (hI : k_Ty σ) (hF : k_Fc σ)  : k_C E mX7_refusalReason 8 [.ref 0] sh σ 1 6 (k_rx (if σ 23 4 = 0 then .inr x_ns else .inl (some (.int (iI (σ 23 4))))) sh (σ)) := by
  refine k_C_of (ls0 := [(0, .ref 0)]) rfl pnX7 (fun v hv => k_cat1 rfl hv) (Nat.le_of_ble_eq_true rfl) rfl ?_
  obtain ⟨t0, t1, t2, t3, t4, t5, t6, t7, t8, t9, t10, t11⟩ := id hI
  obtain ⟨y0, y1, y2, y3, y4⟩ := id hF
  refine k_aload_n dX7_refusalReason_0 0 rfl rfl (by decide) ?_
  refine k_get (kf := 4) (v := .ref 23) dX7_refusalReason_1 kcX7 w_362 (by decide) (by decide) (s_0 hsh) rfl rfl ?_
  refine k_getN (kf := 4) (v := .int (iI (σ 23 4))) dX7_refusalReason_4 kcX2 w_267 (by decide) (by decide) (s_23 hsh) rfl rfl ?_
  refine k_if_eq (tgt := 14) dX7_refusalReason_7 rfl ⟨by omega, by omega⟩ (fun h_1 => ?_) (fun h_1 => ?_)
  · refine k_iconst (v := 0) dX7_refusalReason_14 rfl ?_
    exact k_needE0 (k := 0) (n := 0) (st := []) dX7_refusalReason_15 w_995 w_996 rfl (by omega) (Nat.le_of_ble_eq_true rfl) ⟨(by (repeat' split) <;> first | rfl | (exfalso; omega) | (exfalso; simp_all; done) | (simp_all; done) | (exfalso; simp_all; omega)), rfl, (rfl)⟩
  · refine k_iconst (v := 1) dX7_refusalReason_10 rfl ?_
    refine k_goto (tgt := 15) dX7_refusalReason_11 rfl ?_
    refine k_needE1 (st := []) dX7_refusalReason_15 w_995 w_996 (by omega) (Nat.le_of_ble_eq_true rfl) ?_
    refine k_aload_n dX7_refusalReason_18 0 rfl rfl (by decide) ?_
    refine k_get (kf := 4) (v := .ref 23) dX7_refusalReason_19 kcX7 w_362 (by decide) (by decide) (s_0 hsh) rfl rfl ?_
    refine k_getN (kf := 4) (v := .int (iI (σ 23 4))) dX7_refusalReason_22 kcX2 w_267 (by decide) (by decide) (s_23 hsh) rfl rfl ?_
    exact k_ret_i dX7_refusalReason_25 rfl ⟨(by (repeat' split) <;> first | rfl | (exfalso; omega) | (exfalso; simp_all; done) | (simp_all; done) | (exfalso; simp_all; omega)), rfl, (rfl)⟩
set_option maxHeartbeats 4000000 in
theorem c7_chainMoves (hsh : k_Main sh) (hI : k_Ty σ) (hF : k_Fc σ)  : k_C E mX7_chainMoves 8 [.ref 0] sh σ 1 6 (k_rx (if σ 1 9 = -1 then .inr x_ns else .inl (some (.int (iI (σ 1 9))))) sh (σ)) := by
  refine k_C_of (ls0 := [(0, .ref 0)]) rfl pnX7 (fun v hv => k_cat1 rfl hv) (Nat.le_of_ble_eq_true rfl) rfl ?_
  obtain ⟨t0, t1, t2, t3, t4, t5, t6, t7, t8, t9, t10, t11⟩ := id hI
  obtain ⟨y0, y1, y2, y3, y4⟩ := id hF
  refine k_aload_n dX7_chainMoves_0 0 rfl rfl (by decide) ?_
  refine k_get (kf := 0) (v := .ref 1) dX7_chainMoves_1 kcX7 w_358 (by decide) (by decide) (s_0 hsh) rfl rfl ?_
  refine k_getN (kf := 9) (v := .int (iI (σ 1 9))) dX7_chainMoves_4 kcX5 w_156 (by decide) (by decide) (s_1 hsh) rfl rfl ?_
  refine k_iconst (v := (-1)) dX7_chainMoves_7 rfl ?_
  refine k_icmp_eq (tgt := 15) dX7_chainMoves_8 rfl ⟨by omega, by omega⟩ ⟨by decide, by decide⟩ (fun h_1 => ?_) (fun h_1 => ?_)
  · refine k_iconst (v := 0) dX7_chainMoves_15 rfl ?_
    exact k_needE0 (k := 0) (n := 0) (st := []) dX7_chainMoves_16 w_995 w_996 rfl (by omega) (Nat.le_of_ble_eq_true rfl) ⟨(by (repeat' split) <;> first | rfl | (exfalso; omega) | (exfalso; simp_all; done) | (simp_all; done) | (exfalso; simp_all; omega)), rfl, (rfl)⟩
  · refine k_iconst (v := 1) dX7_chainMoves_11 rfl ?_
    refine k_goto (tgt := 16) dX7_chainMoves_12 rfl ?_
    refine k_needE1 (st := []) dX7_chainMoves_16 w_995 w_996 (by omega) (Nat.le_of_ble_eq_true rfl) ?_
    refine k_aload_n dX7_chainMoves_19 0 rfl rfl (by decide) ?_
    refine k_get (kf := 0) (v := .ref 1) dX7_chainMoves_20 kcX7 w_358 (by decide) (by decide) (s_0 hsh) rfl rfl ?_
    refine k_getN (kf := 9) (v := .int (iI (σ 1 9))) dX7_chainMoves_23 kcX5 w_156 (by decide) (by decide) (s_1 hsh) rfl rfl ?_
    exact k_ret_i dX7_chainMoves_26 rfl ⟨(by (repeat' split) <;> first | rfl | (exfalso; omega) | (exfalso; simp_all; done) | (simp_all; done) | (exfalso; simp_all; omega)), rfl, (rfl)⟩
set_option maxHeartbeats 4000000 in
theorem c7_chainPupil (hsh : k_Main sh) (hI : k_Ty σ) {m : Int} (hm : -2147483648 ≤ m ∧ m < 2147483648) : k_C E mX7_chainPupil 8 [.ref 0, .int (iI (m))] sh σ 1 6 (k_rx (if 0 ≤ m ∧ m < σ 1 9 then .inl (some (.int (iI (σ 8 m.toNat)))) else .inr x_ns) sh (σ)) := by
  refine k_C_of (ls0 := [(0, .ref 0), (1, .int (iI (m)))]) rfl pnX7 (fun v hv => k_cat1 rfl hv) (Nat.le_of_ble_eq_true rfl) rfl ?_
  obtain ⟨t0, t1, t2, t3, t4, t5, t6, t7, t8, t9, t10, t11⟩ := id hI
  refine k_iload_n dX7_chainPupil_0 1 rfl rfl ?_
  refine k_if_lt (tgt := 19) dX7_chainPupil_1 rfl ⟨by omega, by omega⟩ (fun h_1 => ?_) (fun h_1 => ?_)
  · refine k_iconst (v := 0) dX7_chainPupil_19 rfl ?_
    exact k_needE0 (k := 0) (n := 0) (st := []) dX7_chainPupil_20 w_995 w_996 rfl (by omega) (Nat.le_of_ble_eq_true rfl) ⟨(by (repeat' split) <;> first | rfl | (exfalso; omega) | (exfalso; simp_all; done) | (simp_all; done) | (exfalso; simp_all; omega)), rfl, (rfl)⟩
  · refine k_iload_n dX7_chainPupil_4 1 rfl rfl ?_
    refine k_aload_n dX7_chainPupil_5 0 rfl rfl (by decide) ?_
    refine k_get (kf := 0) (v := .ref 1) dX7_chainPupil_6 kcX7 w_358 (by decide) (by decide) (s_0 hsh) rfl rfl ?_
    refine k_getN (kf := 9) (v := .int (iI (σ 1 9))) dX7_chainPupil_9 kcX5 w_156 (by decide) (by decide) (s_1 hsh) rfl rfl ?_
    refine k_icmp_ge (tgt := 19) dX7_chainPupil_12 rfl ⟨by omega, by omega⟩ ⟨by omega, by omega⟩ (fun h_2 => ?_) (fun h_2 => ?_)
    · refine k_iconst (v := 0) dX7_chainPupil_19 rfl ?_
      exact k_needE0 (k := 0) (n := 0) (st := []) dX7_chainPupil_20 w_995 w_996 rfl (by omega) (Nat.le_of_ble_eq_true rfl) ⟨(by (repeat' split) <;> first | rfl | (exfalso; omega) | (exfalso; simp_all; done) | (simp_all; done) | (exfalso; simp_all; omega)), rfl, (rfl)⟩
    · refine k_iconst (v := 1) dX7_chainPupil_15 rfl ?_
      refine k_goto (tgt := 20) dX7_chainPupil_16 rfl ?_
      refine k_needE1 (st := []) dX7_chainPupil_20 w_995 w_996 (by omega) (Nat.le_of_ble_eq_true rfl) ?_
      refine k_aload_n dX7_chainPupil_23 0 rfl rfl (by decide) ?_
      refine k_get (kf := 0) (v := .ref 1) dX7_chainPupil_24 kcX7 w_358 (by decide) (by decide) (s_0 hsh) rfl rfl ?_
      refine k_getN (kf := 10) (v := .ref 8) dX7_chainPupil_27 kcX5 w_158 (by decide) (by decide) (s_1 hsh) rfl rfl ?_
      refine k_iload_n dX7_chainPupil_30 1 rfl rfl ?_
      refine k_callSr (st := []) (as := [.ref 8, .int (iI (m))]) dX7_chainPupil_31 oX7_read w_947 w_460 rfl (by omega) rfl (Nat.le_of_ble_eq_true rfl) (c_readIn (by decide) (s_8 hsh) (by decide) (by omega) (by omega)) ?_
      exact k_ret_i dX7_chainPupil_34 rfl ⟨(by (repeat' split) <;> first | rfl | (exfalso; omega) | (exfalso; simp_all; done) | (simp_all; done) | (exfalso; simp_all; omega)), rfl, (rfl)⟩
set_option maxHeartbeats 4000000 in
theorem c7_chainBlock (hsh : k_Main sh) (hI : k_Ty σ) {m : Int} (hm : -2147483648 ≤ m ∧ m < 2147483648) : k_C E mX7_chainBlock 8 [.ref 0, .int (iI (m))] sh σ 1 6 (k_rx (if 0 ≤ m ∧ m < σ 1 9 then .inl (some (.int (iI (σ 9 m.toNat)))) else .inr x_ns) sh (σ)) := by
  refine k_C_of (ls0 := [(0, .ref 0), (1, .int (iI (m)))]) rfl pnX7 (fun v hv => k_cat1 rfl hv) (Nat.le_of_ble_eq_true rfl) rfl ?_
  obtain ⟨t0, t1, t2, t3, t4, t5, t6, t7, t8, t9, t10, t11⟩ := id hI
  refine k_iload_n dX7_chainBlock_0 1 rfl rfl ?_
  refine k_if_lt (tgt := 19) dX7_chainBlock_1 rfl ⟨by omega, by omega⟩ (fun h_1 => ?_) (fun h_1 => ?_)
  · refine k_iconst (v := 0) dX7_chainBlock_19 rfl ?_
    exact k_needE0 (k := 0) (n := 0) (st := []) dX7_chainBlock_20 w_995 w_996 rfl (by omega) (Nat.le_of_ble_eq_true rfl) ⟨(by (repeat' split) <;> first | rfl | (exfalso; omega) | (exfalso; simp_all; done) | (simp_all; done) | (exfalso; simp_all; omega)), rfl, (rfl)⟩
  · refine k_iload_n dX7_chainBlock_4 1 rfl rfl ?_
    refine k_aload_n dX7_chainBlock_5 0 rfl rfl (by decide) ?_
    refine k_get (kf := 0) (v := .ref 1) dX7_chainBlock_6 kcX7 w_358 (by decide) (by decide) (s_0 hsh) rfl rfl ?_
    refine k_getN (kf := 9) (v := .int (iI (σ 1 9))) dX7_chainBlock_9 kcX5 w_156 (by decide) (by decide) (s_1 hsh) rfl rfl ?_
    refine k_icmp_ge (tgt := 19) dX7_chainBlock_12 rfl ⟨by omega, by omega⟩ ⟨by omega, by omega⟩ (fun h_2 => ?_) (fun h_2 => ?_)
    · refine k_iconst (v := 0) dX7_chainBlock_19 rfl ?_
      exact k_needE0 (k := 0) (n := 0) (st := []) dX7_chainBlock_20 w_995 w_996 rfl (by omega) (Nat.le_of_ble_eq_true rfl) ⟨(by (repeat' split) <;> first | rfl | (exfalso; omega) | (exfalso; simp_all; done) | (simp_all; done) | (exfalso; simp_all; omega)), rfl, (rfl)⟩
    · refine k_iconst (v := 1) dX7_chainBlock_15 rfl ?_
      refine k_goto (tgt := 20) dX7_chainBlock_16 rfl ?_
      refine k_needE1 (st := []) dX7_chainBlock_20 w_995 w_996 (by omega) (Nat.le_of_ble_eq_true rfl) ?_
      refine k_aload_n dX7_chainBlock_23 0 rfl rfl (by decide) ?_
      refine k_get (kf := 0) (v := .ref 1) dX7_chainBlock_24 kcX7 w_358 (by decide) (by decide) (s_0 hsh) rfl rfl ?_
      refine k_getN (kf := 11) (v := .ref 9) dX7_chainBlock_27 kcX5 w_160 (by decide) (by decide) (s_1 hsh) rfl rfl ?_
      refine k_iload_n dX7_chainBlock_30 1 rfl rfl ?_
      refine k_callSr (st := []) (as := [.ref 9, .int (iI (m))]) dX7_chainBlock_31 oX7_read w_947 w_460 rfl (by omega) rfl (Nat.le_of_ble_eq_true rfl) (c_readIn (by decide) (s_9 hsh) (by decide) (by omega) (by omega)) ?_
      exact k_ret_i dX7_chainBlock_34 rfl ⟨(by (repeat' split) <;> first | rfl | (exfalso; omega) | (exfalso; simp_all; done) | (simp_all; done) | (exfalso; simp_all; omega)), rfl, (rfl)⟩
def u_kep (σ : Nat → Nat → Int) : Nat → Nat → Int := u_keepB σ 1
theorem k_kep_pl (hH : k_Hi σ) : k_PlEq (u_kep σ) σ := u_keepB_pl hH.2.1
theorem e_resize_r (σ : Nat → Nat → Int) (s z : Int) : 0 ≤ e_resize σ s z ∧ e_resize σ s z ≤ 4 := by
  unfold e_resize
  (repeat' split) <;> decide
theorem e_withdraw_r (σ : Nat → Nat → Int) (p : Int) : 0 ≤ e_withdraw σ p ∧ e_withdraw σ p ≤ 4 := by
  unfold e_withdraw
  (repeat' split) <;> decide
theorem e_joiner_r4 (σ : Nat → Nat → Int) (p s : Int) : 0 ≤ e_joiner σ p s ∧ e_joiner σ p s ≤ 4 := by
  have := e_joiner_r σ p s
  omega
theorem e_resize_0 {s z : Int} (h : e_resize σ s z = 0) : (0 ≤ s ∧ s < σ 1 0) ∧ (1 ≤ z ∧ z ≤ 9) := by
  unfold e_resize at h
  (repeat' split at h) <;> first | exact ⟨by assumption, by assumption⟩ | cases h
theorem e_withdraw_0 {p : Int} (h : e_withdraw σ p = 0) : (0 ≤ p ∧ p < σ 1 2) ∧ ¬ f_lessons σ p = 0 := by
  unfold e_withdraw at h
  (repeat' split at h) <;> first | exact ⟨by assumption, by assumption⟩ | cases h
set_option maxHeartbeats 4000000 in
theorem c7_withdraw (hsh : k_Main sh) (hI : k_Ty σ) (hH : k_Hi σ) {p : Int} (hp : -2147483648 ≤ p ∧ p < 2147483648) : k_C E mX7_withdraw 9 [.ref 0, .int (iI (p))] sh σ 1 6 (k_rx (if e_withdraw σ p = 0 then .inl (some (.int (iI (f_lessons (u_kep σ) p)))) else .inr (x_of (e_withdraw σ p))) sh (if e_withdraw σ p = 0 then u_drop (u_kep σ) p else σ)) := by
  refine k_C_of (ls0 := [(0, .ref 0), (1, .int (iI (p)))]) rfl pnX7 (fun v hv => k_cat1 rfl hv) (Nat.le_of_ble_eq_true rfl) rfl ?_
  obtain ⟨t0, t1, t2, t3, t4, t5, t6, t7, t8, t9, t10, t11⟩ := id hI
  refine k_aload_n dX7_withdraw_0 0 rfl rfl (by decide) ?_
  refine k_get (kf := 4) (v := .ref 23) dX7_withdraw_1 kcX7 w_362 (by decide) (by decide) (s_0 hsh) rfl rfl ?_
  refine k_iload_n dX7_withdraw_4 1 rfl rfl ?_
  refine k_callVr (st := []) (as := [.int (iI (p))]) dX7_withdraw_5 oX2_faultOfWithdrawing w_1093 w_1094 w_1095 rfl (by omega) rfl (Nat.le_of_ble_eq_true rfl) (by decide) (s_23 hsh) rfl (c_faultOfWithdrawing hsh hI  ⟨by omega, by omega⟩) ?_
  refine k_thrF (k := 0) (n := 0) (st := []) dX7_withdraw_8 w_707 w_708 rfl (e_withdraw_r σ p) (by omega) (Nat.le_of_ble_eq_true rfl) (fun h0 => ?_) (fun h0 => ⟨(by rw [if_neg h0]), rfl, (by rw [if_neg h0])⟩)
  have q0 := e_withdraw_0 h0
  refine k_aload_n dX7_withdraw_11 0 rfl rfl (by decide) ?_
  refine k_get (kf := 5) (v := .ref 24) dX7_withdraw_12 kcX7 w_363 (by decide) (by decide) (s_0 hsh) rfl rfl ?_
  refine k_aload_n dX7_withdraw_15 0 rfl rfl (by decide) ?_
  refine k_get (kf := 0) (v := .ref 1) dX7_withdraw_16 kcX7 w_358 (by decide) (by decide) (s_0 hsh) rfl rfl ?_
  refine k_callVr (st := []) (as := [.ref 1]) dX7_withdraw_19 oX3_keep w_417 w_418 w_419 rfl (by omega) rfl (Nat.le_of_ble_eq_true rfl) (by decide) (s_24 hsh) rfl (c_keep hsh hH (k_plat1 hsh) ⟨by decide, by decide⟩) ?_
  refine k_aload_n dX7_withdraw_22 0 rfl rfl (by decide) ?_
  refine k_get (kf := 0) (v := .ref 1) dX7_withdraw_23 kcX7 w_358 (by decide) (by decide) (s_0 hsh) rfl rfl ?_
  refine k_iload_n dX7_withdraw_26 1 rfl rfl ?_
  refine k_callVr (st := []) (as := [.int (iI (p))]) dX7_withdraw_27 oX5_dropLessons w_1097 w_1098 w_1099 rfl (by omega) rfl (Nat.le_of_ble_eq_true rfl) (by decide) (s_1 hsh) rfl (c_dropLessons hsh ((k_kep_pl hH).ty hI) ⟨by omega, by omega⟩ (by omega)) ?_
  exact k_ret_i dX7_withdraw_30 rfl ⟨(by rw [if_pos h0]), rfl, (by rw [if_pos h0])⟩
set_option maxHeartbeats 4000000 in
theorem c7_movesFor (hsh : k_Main sh) (hI : k_Ty σ) (hC : k_Ch σ) {p s : Int} (hp : -2147483648 ≤ p ∧ p < 2147483648) (hs : -2147483648 ≤ s ∧ s < 2147483648) : k_C E mX7_movesFor 12 [.ref 0, .int (iI (p)), .int (iI (s))] sh σ 1 6 (k_rx (if e_joiner σ p s = 0 then (if f_few σ s (f_free σ p) = -1 then .inr x_ns else .inl (some (.int (iI (f_few σ s (f_free σ p)))))) else .inr (x_of (e_joiner σ p s))) sh (if e_joiner σ p s = 0 then u_few σ s else σ)) := by
  refine k_C_of (ls0 := [(0, .ref 0), (1, .int (iI (p))), (2, .int (iI (s)))]) rfl pnX7 (fun v hv => k_cat1 rfl hv) (Nat.le_of_ble_eq_true rfl) rfl ?_
  obtain ⟨t0, t1, t2, t3, t4, t5, t6, t7, t8, t9, t10, t11⟩ := id hI
  refine k_aload_n dX7_movesFor_0 0 rfl rfl (by decide) ?_
  refine k_get (kf := 4) (v := .ref 23) dX7_movesFor_1 kcX7 w_362 (by decide) (by decide) (s_0 hsh) rfl rfl ?_
  refine k_iload_n dX7_movesFor_4 1 rfl rfl ?_
  refine k_iload_n dX7_movesFor_5 2 rfl rfl ?_
  refine k_callVr (st := []) (as := [.int (iI (p)), .int (iI (s))]) dX7_movesFor_6 oX2_faultOfJoiner w_1200 w_656 w_657 rfl (by omega) rfl (Nat.le_of_ble_eq_true rfl) (by decide) (s_23 hsh) rfl (c_faultOfJoiner hsh hI  ⟨by omega, by omega⟩ ⟨by omega, by omega⟩) ?_
  refine k_thrF (k := 0) (n := 0) (st := []) dX7_movesFor_9 w_707 w_708 rfl (e_joiner_r4 σ p s) (by omega) (Nat.le_of_ble_eq_true rfl) (fun h0 => ?_) (fun h0 => ⟨(by rw [if_neg h0]), rfl, (by rw [if_neg h0])⟩)
  have q0 := e_joiner_0 h0
  have q1 := f_free_b hI p
  have q2 := f_few_r hI hC s (f_free σ p)
  refine k_aload_n dX7_movesFor_12 0 rfl rfl (by decide) ?_
  refine k_get (kf := 2) (v := .ref 14) dX7_movesFor_13 kcX7 w_360 (by decide) (by decide) (s_0 hsh) rfl rfl ?_
  refine k_iload_n dX7_movesFor_16 2 rfl rfl ?_
  refine k_aload_n dX7_movesFor_17 0 rfl rfl (by decide) ?_
  refine k_get (kf := 0) (v := .ref 1) dX7_movesFor_18 kcX7 w_358 (by decide) (by decide) (s_0 hsh) rfl rfl ?_
  refine k_iload_n dX7_movesFor_21 1 rfl rfl ?_
  refine k_callVr (st := [.int (iI (s)), .ref 14]) (as := [.int (iI (p))]) dX7_movesFor_22 oX5_freeBlocks w_1201 w_661 w_662 rfl (by omega) rfl (Nat.le_of_ble_eq_true rfl) (by decide) (s_1 hsh) rfl (c_freeBlocks hsh hI ⟨by omega, by omega⟩ (by omega)) ?_
  refine k_callVr (st := []) (as := [.int (iI (s)), .int (iI (f_free σ p))]) dX7_movesFor_25 oX1_fewestMoves w_1202 w_665 w_666 rfl (by omega) rfl (Nat.le_of_ble_eq_true rfl) (by decide) (s_14 hsh) rfl (c_fewestMoves hsh hI hC ⟨by omega, by omega⟩ ⟨by omega, by omega⟩ (by omega)) ?_
  refine k_istore_n (ls' := [(0, .ref 0), (1, .int (iI (p))), (2, .int (iI (s))), (3, .int (iI (f_few σ s (f_free σ p))))]) dX7_movesFor_28 rfl (by decide) rfl rfl ?_
  refine k_iload_n dX7_movesFor_29 3 rfl rfl ?_
  refine k_iconst (v := (-1)) dX7_movesFor_30 rfl ?_
  refine k_icmp_eq (tgt := 38) dX7_movesFor_31 rfl ⟨by omega, by omega⟩ ⟨by decide, by decide⟩ (fun h_1 => ?_) (fun h_1 => ?_)
  · refine k_iconst (v := 0) dX7_movesFor_38 rfl ?_
    exact k_needE0 (k := 0) (n := 0) (st := []) dX7_movesFor_39 w_995 w_996 rfl (by omega) (Nat.le_of_ble_eq_true rfl) ⟨(by rw [if_pos h0, if_pos h_1]), rfl, (by rw [if_pos h0])⟩
  · refine k_iconst (v := 1) dX7_movesFor_34 rfl ?_
    refine k_goto (tgt := 39) dX7_movesFor_35 rfl ?_
    refine k_needE1 (st := []) dX7_movesFor_39 w_995 w_996 (by omega) (Nat.le_of_ble_eq_true rfl) ?_
    refine k_iload_n dX7_movesFor_42 3 rfl rfl ?_
    exact k_ret_i dX7_movesFor_43 rfl ⟨(by rw [if_pos h0, if_neg h_1]), rfl, (by rw [if_pos h0])⟩
set_option maxHeartbeats 4000000 in
theorem c7_movesByTrial (hsh : k_Main sh) (hI : k_Ty σ) (hC : k_Ch σ) {p s : Int} (hp : -2147483648 ≤ p ∧ p < 2147483648) (hs : -2147483648 ≤ s ∧ s < 2147483648) : k_C E mX7_movesByTrial 12 [.ref 0, .int (iI (p)), .int (iI (s))] sh σ 1 6 (k_rx (if e_joiner σ p s = 0 then (if f_trial σ s (f_free σ p) = -1 then .inr x_ns else .inl (some (.int (iI (f_trial σ s (f_free σ p)))))) else .inr (x_of (e_joiner σ p s))) sh (σ)) := by
  refine k_C_of (ls0 := [(0, .ref 0), (1, .int (iI (p))), (2, .int (iI (s)))]) rfl pnX7 (fun v hv => k_cat1 rfl hv) (Nat.le_of_ble_eq_true rfl) rfl ?_
  obtain ⟨t0, t1, t2, t3, t4, t5, t6, t7, t8, t9, t10, t11⟩ := id hI
  refine k_aload_n dX7_movesByTrial_0 0 rfl rfl (by decide) ?_
  refine k_get (kf := 4) (v := .ref 23) dX7_movesByTrial_1 kcX7 w_362 (by decide) (by decide) (s_0 hsh) rfl rfl ?_
  refine k_iload_n dX7_movesByTrial_4 1 rfl rfl ?_
  refine k_iload_n dX7_movesByTrial_5 2 rfl rfl ?_
  refine k_callVr (st := []) (as := [.int (iI (p)), .int (iI (s))]) dX7_movesByTrial_6 oX2_faultOfJoiner w_1200 w_656 w_657 rfl (by omega) rfl (Nat.le_of_ble_eq_true rfl) (by decide) (s_23 hsh) rfl (c_faultOfJoiner hsh hI  ⟨by omega, by omega⟩ ⟨by omega, by omega⟩) ?_
  refine k_thrF (k := 0) (n := 0) (st := []) dX7_movesByTrial_9 w_707 w_708 rfl (e_joiner_r4 σ p s) (by omega) (Nat.le_of_ble_eq_true rfl) (fun h0 => ?_) (fun h0 => ⟨(by rw [if_neg h0]), rfl, (rfl)⟩)
  have q0 := e_joiner_0 h0
  have q1 := f_free_b hI p
  have q2 : -1 ≤ f_trial σ s (f_free σ p) ∧ f_trial σ s (f_free σ p) < 4 := z_first_r _ 4
  refine k_aload_n dX7_movesByTrial_12 0 rfl rfl (by decide) ?_
  refine k_get (kf := 2) (v := .ref 14) dX7_movesByTrial_13 kcX7 w_360 (by decide) (by decide) (s_0 hsh) rfl rfl ?_
  refine k_iload_n dX7_movesByTrial_16 2 rfl rfl ?_
  refine k_aload_n dX7_movesByTrial_17 0 rfl rfl (by decide) ?_
  refine k_get (kf := 0) (v := .ref 1) dX7_movesByTrial_18 kcX7 w_358 (by decide) (by decide) (s_0 hsh) rfl rfl ?_
  refine k_iload_n dX7_movesByTrial_21 1 rfl rfl ?_
  refine k_callVr (st := [.int (iI (s)), .ref 14]) (as := [.int (iI (p))]) dX7_movesByTrial_22 oX5_freeBlocks w_1201 w_661 w_662 rfl (by omega) rfl (Nat.le_of_ble_eq_true rfl) (by decide) (s_1 hsh) rfl (c_freeBlocks hsh hI ⟨by omega, by omega⟩ (by omega)) ?_
  refine k_callVr (st := []) (as := [.int (iI (s)), .int (iI (f_free σ p))]) dX7_movesByTrial_25 oX1_fewestMovesByTrial w_1210 w_1211 w_1212 rfl (by omega) rfl (Nat.le_of_ble_eq_true rfl) (by decide) (s_14 hsh) rfl (c_fewestMovesByTrial hsh hI ⟨by omega, by omega⟩ ⟨by omega, by omega⟩ (by omega)) ?_
  refine k_istore_n (ls' := [(0, .ref 0), (1, .int (iI (p))), (2, .int (iI (s))), (3, .int (iI (f_trial σ s (f_free σ p))))]) dX7_movesByTrial_28 rfl (by decide) rfl rfl ?_
  refine k_iload_n dX7_movesByTrial_29 3 rfl rfl ?_
  refine k_iconst (v := (-1)) dX7_movesByTrial_30 rfl ?_
  refine k_icmp_eq (tgt := 38) dX7_movesByTrial_31 rfl ⟨by omega, by omega⟩ ⟨by decide, by decide⟩ (fun h_1 => ?_) (fun h_1 => ?_)
  · refine k_iconst (v := 0) dX7_movesByTrial_38 rfl ?_
    exact k_needE0 (k := 0) (n := 0) (st := []) dX7_movesByTrial_39 w_995 w_996 rfl (by omega) (Nat.le_of_ble_eq_true rfl) ⟨(by rw [if_pos h0, if_pos h_1]), rfl, (rfl)⟩
  · refine k_iconst (v := 1) dX7_movesByTrial_34 rfl ?_
    refine k_goto (tgt := 39) dX7_movesByTrial_35 rfl ?_
    refine k_needE1 (st := []) dX7_movesByTrial_39 w_995 w_996 (by omega) (Nat.le_of_ble_eq_true rfl) ?_
    refine k_iload_n dX7_movesByTrial_42 3 rfl rfl ?_
    exact k_ret_i dX7_movesByTrial_43 rfl ⟨(by rw [if_pos h0, if_neg h_1]), rfl, (rfl)⟩
def r_pair (σ : Nat → Nat → Int) (s o : Int) : Option Value ⊕ String := if (0 ≤ s ∧ s < σ 1 0) ∧ (0 ≤ o ∧ o < σ 1 0) then (if s = o then .inr x_ia else .inl none) else .inr x_io
theorem r_pair_v {s o : Int} {v : Option Value} (h : r_pair σ s o = .inl v) : ((0 ≤ s ∧ s < σ 1 0) ∧ (0 ≤ o ∧ o < σ 1 0)) ∧ v = none := by
  unfold r_pair at h
  (repeat' split at h) <;> first | (cases h; exact ⟨by assumption, rfl⟩) | cases h
def f_ccI (σ : Nat → Nat → Int) (s : Nat) (a : Int) (n : Nat) : Int := k_fold n (fun o a => if f_clash σ (s : Int) (o : Int) then a + f_both σ (s : Int) (o : Int) else a) a
def f_ccN (σ : Nat → Nat → Int) (n : Nat) : Int := k_fold n (fun s a => f_ccI σ s a s) 0
set_option maxHeartbeats 4000000 in
theorem c7_leastClashes (hsh : k_Main sh) (hI : k_Ty σ) (hA : k_Ar σ)  : k_C E mX7_leastClashes 14 [.ref 0] sh σ 1 6 (k_rx (.inl (some (.int (iI ((f_abest σ).2.2.2))))) sh (u_abest σ)) := by
  refine k_C_of (ls0 := [(0, .ref 0)]) rfl pnX7 (fun v hv => k_cat1 rfl hv) (Nat.le_of_ble_eq_true rfl) rfl ?_
  obtain ⟨t0, t1, t2, t3, t4, t5, t6, t7, t8, t9, t10, t11⟩ := id hI
  refine k_aload_n dX7_leastClashes_0 0 rfl rfl (by decide) ?_
  refine k_get (kf := 3) (v := .ref 18) dX7_leastClashes_1 kcX7 w_361 (by decide) (by decide) (s_0 hsh) rfl rfl ?_
  refine k_callVr (st := []) (as := []) dX7_leastClashes_4 oX0_findBest w_562 w_563 w_564 rfl (by omega) rfl (Nat.le_of_ble_eq_true rfl) (by decide) (s_18 hsh) rfl (c_findBestA hsh hI hA) ?_
  exact k_ret_i dX7_leastClashes_7 rfl ⟨(rfl), rfl, (rfl)⟩
set_option maxHeartbeats 4000000 in
theorem c7_leastClashesByTrial (hsh : k_Main sh) (hI : k_Ty σ) (hA : k_Ar σ) (h5 : 0 ≤ σ 18 5 ∧ σ 18 5 ≤ 2147483647)  : k_C E mX7_leastClashesByTrial 14 [.ref 0] sh σ 1 6 (k_rx (.inl (some (.int (iI ((f_atry σ).1))))) sh (u_atry σ)) := by
  refine k_C_of (ls0 := [(0, .ref 0)]) rfl pnX7 (fun v hv => k_cat1 rfl hv) (Nat.le_of_ble_eq_true rfl) rfl ?_
  obtain ⟨t0, t1, t2, t3, t4, t5, t6, t7, t8, t9, t10, t11⟩ := id hI
  refine k_aload_n dX7_leastClashesByTrial_0 0 rfl rfl (by decide) ?_
  refine k_get (kf := 3) (v := .ref 18) dX7_leastClashesByTrial_1 kcX7 w_361 (by decide) (by decide) (s_0 hsh) rfl rfl ?_
  refine k_callVr (st := []) (as := []) dX7_leastClashesByTrial_4 oX0_fewestByTrial w_590 w_591 w_592 rfl (by omega) rfl (Nat.le_of_ble_eq_true rfl) (by decide) (s_18 hsh) rfl (c_fewestByTrial hsh hI hA h5) ?_
  exact k_ret_i dX7_leastClashesByTrial_7 rfl ⟨(rfl), rfl, (rfl)⟩
set_option maxHeartbeats 4000000 in
theorem c7_undo (hsh : k_Main sh) (hI : k_Ty σ) (hH : k_Hi σ)  : k_C E mX7_undo 8 [.ref 0] sh σ 1 6 (k_rx (if 0 < σ 24 2 then .inl (some (.int (iI (u_back σ 24 2)))) else .inr x_is) sh (if 0 < σ 24 2 then u_back σ else σ)) := by
  refine k_C_of (ls0 := [(0, .ref 0)]) rfl pnX7 (fun v hv => k_cat1 rfl hv) (Nat.le_of_ble_eq_true rfl) rfl ?_
  obtain ⟨t0, t1, t2, t3, t4, t5, t6, t7, t8, t9, t10, t11⟩ := id hI
  obtain ⟨y0, y1, y2⟩ := id hH
  refine k_aload_n dX7_undo_0 0 rfl rfl (by decide) ?_
  refine k_get (kf := 5) (v := .ref 24) dX7_undo_1 kcX7 w_363 (by decide) (by decide) (s_0 hsh) rfl rfl ?_
  refine k_getN (kf := 2) (v := .int (iI (σ 24 2))) dX7_undo_4 kcX3 w_291 (by decide) (by decide) (s_24 hsh) rfl rfl ?_
  refine k_if_gt (tgt := 21) dX7_undo_7 rfl ⟨by omega, by omega⟩ (fun h_1 => ?_) (fun h_1 => ?_)
  · refine k_aload_n dX7_undo_21 0 rfl rfl (by decide) ?_
    refine k_get (kf := 5) (v := .ref 24) dX7_undo_22 kcX7 w_363 (by decide) (by decide) (s_0 hsh) rfl rfl ?_
    refine k_aload_n dX7_undo_25 0 rfl rfl (by decide) ?_
    refine k_get (kf := 0) (v := .ref 1) dX7_undo_26 kcX7 w_358 (by decide) (by decide) (s_0 hsh) rfl rfl ?_
    refine k_callVr (st := []) (as := [.ref 1]) dX7_undo_29 oX3_bringBack w_1711 w_1712 w_1713 rfl (by omega) rfl (Nat.le_of_ble_eq_true rfl) (by decide) (s_24 hsh) rfl (c_bringBack hsh hH) ?_
    refine k_aload_n dX7_undo_32 0 rfl rfl (by decide) ?_
    refine k_get (kf := 5) (v := .ref 24) dX7_undo_33 kcX7 w_363 (by decide) (by decide) (s_0 hsh) rfl rfl ?_
    refine k_getN (kf := 2) (v := .int (iI ((u_back σ) 24 2))) dX7_undo_36 kcX3 w_291 (by decide) (by decide) (s_24 hsh) rfl rfl ?_
    exact k_ret_i dX7_undo_39 rfl ⟨(by (repeat' split) <;> first | rfl | (exfalso; omega) | (exfalso; simp_all; done) | (simp_all; done) | (exfalso; simp_all; omega)), rfl, (by exact (if_pos (by first | assumption | omega)).symm)⟩
  · exact k_throwW dX7_undo_10 dX7_undo_13 dX7_undo_14 dX7_undo_17 dX7_undo_20 rfl th_is w_1710 (by decide) (Nat.le_of_ble_eq_true rfl) ⟨(by (repeat' split) <;> first | rfl | (exfalso; omega) | (exfalso; simp_all; done) | (simp_all; done) | (exfalso; simp_all; omega)), rfl, (by exact (if_neg (by first | assumption | omega)).symm)⟩
end K_FC
