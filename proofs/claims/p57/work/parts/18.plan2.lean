/-! ===== THE PLAN, second part: what changes it ===== -/
section K_M2
variable {E : k_E} {sh : List k_Sh} {σ : Nat → Nat → Int}
def u_newSubject (σ : Nat → Nat → Int) (z : Int) : Nat → Nat → Int := k_up (k_up σ 2 (k_u1 (σ 2) (σ 1 0).toNat z)) 1 (k_u1 (σ 1) 0 (σ 1 0 + 1))
def u_newPupil (σ : Nat → Nat → Int) : Nat → Nat → Int := k_up (k_up σ 7 (k_u1 (σ 7) (σ 1 2).toNat (-1))) 1 (k_u1 (σ 1) 2 (σ 1 2 + 1))
def u_newWish (σ : Nat → Nat → Int) (p s : Int) : Nat → Nat → Int := k_up (k_up σ 6 (k_u1 (σ 6) (p * 3 + σ 5 p.toNat).toNat s)) 5 (k_u1 (σ 5) p.toNat (σ 5 p.toNat + 1))
def u_enter (σ : Nat → Nat → Int) (p s b : Int) : Nat → Nat → Int := if (0 ≤ s ∧ s < σ 1 0) ∧ (0 ≤ b ∧ b < σ 1 1) then k_up σ 4 (k_u1 (σ 4) (s * 4 + b).toNat (z_or (f_roster σ s b) (z_one p))) else σ
def u_leave (σ : Nat → Nat → Int) (p s b : Int) : Nat → Nat → Int := if (0 ≤ s ∧ s < σ 1 0) ∧ (0 ≤ b ∧ b < σ 1 1) then k_up σ 4 (k_u1 (σ 4) (s * 4 + b).toNat (z_diff (f_roster σ s b) (z_one p))) else σ
def u_note (σ : Nat → Nat → Int) (m p b : Int) : Nat → Nat → Int := k_up (k_up σ 8 (k_u1 (σ 8) m.toNat p)) 9 (k_u1 (σ 9) m.toNat b)
set_option maxHeartbeats 4000000 in
theorem c_newSubject (hsh : k_Main sh) (hI : k_Ty σ) {z : Int} (hz : -2147483648 ≤ z ∧ z < 2147483648) (h7 : σ 1 0 < 7) : k_C E mX5_newSubject 2 [.ref 1, .int (iI (z))] sh σ 0 0 (k_ret (some (.int (iI (σ 1 0)))) sh (u_newSubject σ z)) := by
  refine k_C_of (ls0 := [(0, .ref 1), (1, .int (iI (z)))]) rfl pnX5 (fun v hv => k_cat1 rfl hv) (Nat.le_of_ble_eq_true rfl) rfl ?_
  obtain ⟨t0, t1, t2, t3, t4, t5, t6, t7, t8, t9, t10, t11⟩ := id hI
  refine k_aload_n dX5_newSubject_0 0 rfl rfl (by decide) ?_
  refine k_get (kf := 3) (v := .ref 2) dX5_newSubject_1 kcX5 w_142 (by decide) (by decide) (s_1 hsh) rfl rfl ?_
  refine k_aload_n dX5_newSubject_4 0 rfl rfl (by decide) ?_
  refine k_get (kf := 0) (v := .int (iI (σ 1 0))) dX5_newSubject_5 kcX5 w_131 (by decide) (by decide) (s_1 hsh) rfl rfl ?_
  refine k_iload_n dX5_newSubject_8 1 rfl rfl ?_
  refine k_callSNr (st := []) (as := [.ref 2, .int (iI (σ 1 0)), .int (iI (z))]) dX5_newSubject_9 oX7_write w_528 w_498 rfl (by omega) rfl (Nat.le_of_ble_eq_true rfl) (c_writeIn (by decide) (s_2 hsh) (by decide) (by omega) (by omega)) ?_
  refine k_aload_n dX5_newSubject_12 0 rfl rfl (by decide) ?_
  refine k_dup dX5_newSubject_13 rfl ?_
  refine k_get (kf := 0) (v := .int (iI (σ 1 0))) dX5_newSubject_14 kcX5 w_131 (by decide) (by decide) (s_1 hsh) rfl rfl ?_
  refine k_iconst (v := 1) dX5_newSubject_17 rfl ?_
  refine k_iadd dX5_newSubject_18 ?_
  refine k_putf (kf := 0) dX5_newSubject_19 kcX5 w_131 (by decide) (by decide) (s_1 hsh) rfl rfl rfl rfl ?_
  refine k_aload_n dX5_newSubject_22 0 rfl rfl (by decide) ?_
  refine k_get (kf := 0) (v := .int (iI ((σ 1 0) + 1))) dX5_newSubject_23 kcX5 w_131 (by decide) (by decide) (s_1 hsh) rfl rfl ?_
  refine k_iconst (v := 1) dX5_newSubject_26 rfl ?_
  refine k_isub dX5_newSubject_27 ?_
  exact k_reti dX5_newSubject_28 rfl rfl (by show σ 1 0 + 1 - 1 = σ 1 0; omega)
set_option maxHeartbeats 4000000 in
theorem c_newPupil (hsh : k_Main sh) (hI : k_Ty σ)  (h12 : σ 1 2 < 12) : k_C E mX5_newPupil 2 [.ref 1] sh σ 0 0 (k_ret (some (.int (iI (σ 1 2)))) sh (u_newPupil σ)) := by
  refine k_C_of (ls0 := [(0, .ref 1)]) rfl pnX5 (fun v hv => k_cat1 rfl hv) (Nat.le_of_ble_eq_true rfl) rfl ?_
  obtain ⟨t0, t1, t2, t3, t4, t5, t6, t7, t8, t9, t10, t11⟩ := id hI
  refine k_aload_n dX5_newPupil_0 0 rfl rfl (by decide) ?_
  refine k_get (kf := 8) (v := .ref 7) dX5_newPupil_1 kcX5 w_151 (by decide) (by decide) (s_1 hsh) rfl rfl ?_
  refine k_aload_n dX5_newPupil_4 0 rfl rfl (by decide) ?_
  refine k_get (kf := 2) (v := .int (iI (σ 1 2))) dX5_newPupil_5 kcX5 w_138 (by decide) (by decide) (s_1 hsh) rfl rfl ?_
  refine k_iconst (v := (-1)) dX5_newPupil_8 rfl ?_
  refine k_callSNr (st := []) (as := [.ref 7, .int (iI (σ 1 2)), .int (iI (-1))]) dX5_newPupil_9 oX7_write w_528 w_498 rfl (by omega) rfl (Nat.le_of_ble_eq_true rfl) (c_writeIn (by decide) (s_7 hsh) (by decide) (by omega) (by omega)) ?_
  refine k_aload_n dX5_newPupil_12 0 rfl rfl (by decide) ?_
  refine k_dup dX5_newPupil_13 rfl ?_
  refine k_get (kf := 2) (v := .int (iI (σ 1 2))) dX5_newPupil_14 kcX5 w_138 (by decide) (by decide) (s_1 hsh) rfl rfl ?_
  refine k_iconst (v := 1) dX5_newPupil_17 rfl ?_
  refine k_iadd dX5_newPupil_18 ?_
  refine k_putf (kf := 2) dX5_newPupil_19 kcX5 w_138 (by decide) (by decide) (s_1 hsh) rfl rfl rfl rfl ?_
  refine k_aload_n dX5_newPupil_22 0 rfl rfl (by decide) ?_
  refine k_get (kf := 2) (v := .int (iI ((σ 1 2) + 1))) dX5_newPupil_23 kcX5 w_138 (by decide) (by decide) (s_1 hsh) rfl rfl ?_
  refine k_iconst (v := 1) dX5_newPupil_26 rfl ?_
  refine k_isub dX5_newPupil_27 ?_
  exact k_reti dX5_newPupil_28 rfl rfl (by show σ 1 2 + 1 - 1 = σ 1 2; omega)
set_option maxHeartbeats 4000000 in
theorem c_setBlocks (hsh : k_Main sh) (hI : k_Ty σ) {c : Int} (hc : -2147483648 ≤ c ∧ c < 2147483648) : k_C E mX5_setBlocks 1 [.ref 1, .int (iI (c))] sh σ 0 0 (k_ret (some (.int (iI (σ 1 1)))) sh (k_up σ 1 (k_u1 (σ 1) 1 c))) := by
  refine k_C_of (ls0 := [(0, .ref 1), (1, .int (iI (c)))]) rfl pnX5 (fun v hv => k_cat1 rfl hv) (Nat.le_of_ble_eq_true rfl) rfl ?_
  obtain ⟨t0, t1, t2, t3, t4, t5, t6, t7, t8, t9, t10, t11⟩ := id hI
  refine k_aload_n dX5_setBlocks_0 0 rfl rfl (by decide) ?_
  refine k_get (kf := 1) (v := .int (iI (σ 1 1))) dX5_setBlocks_1 kcX5 w_135 (by decide) (by decide) (s_1 hsh) rfl rfl ?_
  refine k_istore_n (ls' := [(0, .ref 1), (1, .int (iI (c))), (2, .int (iI (σ 1 1)))]) dX5_setBlocks_4 rfl (by decide) rfl rfl ?_
  refine k_aload_n dX5_setBlocks_5 0 rfl rfl (by decide) ?_
  refine k_iload_n dX5_setBlocks_6 1 rfl rfl ?_
  refine k_putf (kf := 1) dX5_setBlocks_7 kcX5 w_135 (by decide) (by decide) (s_1 hsh) rfl rfl rfl rfl ?_
  refine k_iload_n dX5_setBlocks_10 2 rfl rfl ?_
  exact k_reti dX5_setBlocks_11 rfl rfl (by rfl)
set_option maxHeartbeats 4000000 in
theorem c_setOpenBlocks (hsh : k_Main sh) (hI : k_Ty σ) {s o : Int} (hs : -2147483648 ≤ s ∧ s < 2147483648) (ho : -2147483648 ≤ o ∧ o < 2147483648) (h7 : 0 ≤ s ∧ s < 7) (ho0 : 0 ≤ o ∧ o < 4096) : k_C E mX5_setOpenBlocks 2 [.ref 1, .int (iI (s)), .int (iI (o))] sh σ 0 0 (k_ret (some (.int (iI (z_cnt o)))) sh (k_up σ 3 (k_u1 (σ 3) s.toNat o))) := by
  refine k_C_of (ls0 := [(0, .ref 1), (1, .int (iI (s))), (2, .int (iI (o)))]) rfl pnX5 (fun v hv => k_cat1 rfl hv) (Nat.le_of_ble_eq_true rfl) rfl ?_
  obtain ⟨t0, t1, t2, t3, t4, t5, t6, t7, t8, t9, t10, t11⟩ := id hI
  refine k_aload_n dX5_setOpenBlocks_0 0 rfl rfl (by decide) ?_
  refine k_get (kf := 4) (v := .ref 3) dX5_setOpenBlocks_1 kcX5 w_144 (by decide) (by decide) (s_1 hsh) rfl rfl ?_
  refine k_iload_n dX5_setOpenBlocks_4 1 rfl rfl ?_
  refine k_iload_n dX5_setOpenBlocks_5 2 rfl rfl ?_
  refine k_callSNr (st := []) (as := [.ref 3, .int (iI (s)), .int (iI (o))]) dX5_setOpenBlocks_6 oX7_write w_528 w_498 rfl (by omega) rfl (Nat.le_of_ble_eq_true rfl) (c_writeIn (by decide) (s_3 hsh) (by decide) (by omega) (by omega)) ?_
  refine k_iload_n dX5_setOpenBlocks_9 2 rfl rfl ?_
  refine k_callSr (st := []) (as := [.int (iI (o))]) dX5_setOpenBlocks_10 oJ6_bitCount_0f7a4 w_491 w_492 rfl (by omega) rfl (Nat.le_of_ble_eq_true rfl) (c_bitCount ⟨by omega, by omega⟩) ?_
  exact k_reti dX5_setOpenBlocks_13 rfl rfl (by rfl)
set_option maxHeartbeats 4000000 in
theorem c_newWish (hsh : k_Main sh) (hI : k_Ty σ) {p s : Int} (hp : -2147483648 ≤ p ∧ p < 2147483648) (hs : -2147483648 ≤ s ∧ s < 2147483648) (hp0 : 0 ≤ p ∧ p < 12) (h3 : σ 5 p.toNat < 3) : k_C E mX5_newWish 2 [.ref 1, .int (iI (p)), .int (iI (s))] sh σ 0 0 (k_ret (some (.int (iI (σ 5 p.toNat + 1)))) sh (u_newWish σ p s)) := by
  refine k_C_of (ls0 := [(0, .ref 1), (1, .int (iI (p))), (2, .int (iI (s)))]) rfl pnX5 (fun v hv => k_cat1 rfl hv) (Nat.le_of_ble_eq_true rfl) rfl ?_
  obtain ⟨t0, t1, t2, t3, t4, t5, t6, t7, t8, t9, t10, t11⟩ := id hI
  have q9 := t6 p.toNat
  refine k_aload_n dX5_newWish_0 0 rfl rfl (by decide) ?_
  refine k_get (kf := 6) (v := .ref 5) dX5_newWish_1 kcX5 w_146 (by decide) (by decide) (s_1 hsh) rfl rfl ?_
  refine k_iload_n dX5_newWish_4 1 rfl rfl ?_
  refine k_callSNr (st := []) (as := [.ref 5, .int (iI (p))]) dX5_newWish_5 oX7_read w_459 w_460 rfl (by omega) rfl (Nat.le_of_ble_eq_true rfl) (c_readIn (by decide) (s_5 hsh) (by decide) (by omega) (by omega)) ?_
  refine k_istore_n (ls' := [(0, .ref 1), (1, .int (iI (p))), (2, .int (iI (s))), (3, .int (iI (σ 5 (p).toNat)))]) dX5_newWish_8 rfl (by decide) rfl rfl ?_
  refine k_aload_n dX5_newWish_9 0 rfl rfl (by decide) ?_
  refine k_get (kf := 7) (v := .ref 6) dX5_newWish_10 kcX5 w_150 (by decide) (by decide) (s_1 hsh) rfl rfl ?_
  refine k_iload_n dX5_newWish_13 1 rfl rfl ?_
  refine k_iconst (v := 3) dX5_newWish_14 rfl ?_
  refine k_imul dX5_newWish_15 ?_
  refine k_iload_n dX5_newWish_16 3 rfl rfl ?_
  refine k_iadd dX5_newWish_17 ?_
  refine k_iload_n dX5_newWish_18 2 rfl rfl ?_
  refine k_callSNr (st := []) (as := [.ref 6, .int (iI ((p * 3) + (σ 5 (p).toNat))), .int (iI (s))]) dX5_newWish_19 oX7_write w_528 w_498 rfl (by omega) rfl (Nat.le_of_ble_eq_true rfl) (c_writeIn (by decide) (s_6 hsh) (by decide) (by omega) (by omega)) ?_
  refine k_aload_n dX5_newWish_22 0 rfl rfl (by decide) ?_
  refine k_get (kf := 6) (v := .ref 5) dX5_newWish_23 kcX5 w_146 (by decide) (by decide) (s_1 hsh) rfl rfl ?_
  refine k_iload_n dX5_newWish_26 1 rfl rfl ?_
  refine k_iload_n dX5_newWish_27 3 rfl rfl ?_
  refine k_iconst (v := 1) dX5_newWish_28 rfl ?_
  refine k_iadd dX5_newWish_29 ?_
  refine k_callSNr (st := []) (as := [.ref 5, .int (iI (p)), .int (iI ((σ 5 (p).toNat) + 1))]) dX5_newWish_30 oX7_write w_528 w_498 rfl (by omega) rfl (Nat.le_of_ble_eq_true rfl) (c_writeIn (by decide) (s_5 hsh) (by decide) (by omega) (by omega)) ?_
  refine k_iload_n dX5_newWish_33 3 rfl rfl ?_
  refine k_iconst (v := 1) dX5_newWish_34 rfl ?_
  refine k_iadd dX5_newWish_35 ?_
  exact k_reti dX5_newWish_36 rfl rfl (by rfl)
set_option maxHeartbeats 4000000 in
theorem c_newReserve (hsh : k_Main sh) (hI : k_Ty σ) {p s : Int} (hp : -2147483648 ≤ p ∧ p < 2147483648) (hs : -2147483648 ≤ s ∧ s < 2147483648) (hp0 : 0 ≤ p ∧ p < 12) : k_C E mX5_newReserve 2 [.ref 1, .int (iI (p)), .int (iI (s))] sh σ 0 0 (k_ret (some (.int (iI (σ 7 p.toNat)))) sh (k_up σ 7 (k_u1 (σ 7) p.toNat s))) := by
  refine k_C_of (ls0 := [(0, .ref 1), (1, .int (iI (p))), (2, .int (iI (s)))]) rfl pnX5 (fun v hv => k_cat1 rfl hv) (Nat.le_of_ble_eq_true rfl) rfl ?_
  obtain ⟨t0, t1, t2, t3, t4, t5, t6, t7, t8, t9, t10, t11⟩ := id hI
  refine k_aload_n dX5_newReserve_0 0 rfl rfl (by decide) ?_
  refine k_get (kf := 8) (v := .ref 7) dX5_newReserve_1 kcX5 w_151 (by decide) (by decide) (s_1 hsh) rfl rfl ?_
  refine k_iload_n dX5_newReserve_4 1 rfl rfl ?_
  refine k_callSNr (st := []) (as := [.ref 7, .int (iI (p))]) dX5_newReserve_5 oX7_read w_459 w_460 rfl (by omega) rfl (Nat.le_of_ble_eq_true rfl) (c_readIn (by decide) (s_7 hsh) (by decide) (by omega) (by omega)) ?_
  refine k_istore_n (ls' := [(0, .ref 1), (1, .int (iI (p))), (2, .int (iI (s))), (3, .int (iI (σ 7 (p).toNat)))]) dX5_newReserve_8 rfl (by decide) rfl rfl ?_
  refine k_aload_n dX5_newReserve_9 0 rfl rfl (by decide) ?_
  refine k_get (kf := 8) (v := .ref 7) dX5_newReserve_10 kcX5 w_151 (by decide) (by decide) (s_1 hsh) rfl rfl ?_
  refine k_iload_n dX5_newReserve_13 1 rfl rfl ?_
  refine k_iload_n dX5_newReserve_14 2 rfl rfl ?_
  refine k_callSNr (st := []) (as := [.ref 7, .int (iI (p)), .int (iI (s))]) dX5_newReserve_15 oX7_write w_528 w_498 rfl (by omega) rfl (Nat.le_of_ble_eq_true rfl) (c_writeIn (by decide) (s_7 hsh) (by decide) (by omega) (by omega)) ?_
  refine k_iload_n dX5_newReserve_18 3 rfl rfl ?_
  exact k_reti dX5_newReserve_19 rfl rfl (by rfl)
set_option maxHeartbeats 4000000 in
theorem c_enter (hsh : k_Main sh) (hI : k_Ty σ) {p s b : Int} (hp : -2147483648 ≤ p ∧ p < 2147483648) (hs : -2147483648 ≤ s ∧ s < 2147483648) (hb : -2147483648 ≤ b ∧ b < 2147483648) (hp0 : 0 ≤ p ∧ p < 12) : k_C E mX5_enter 3 [.ref 1, .int (iI (p)), .int (iI (s)), .int (iI (b))] sh σ 0 0 (k_ret none sh (u_enter σ p s b)) := by
  refine k_C_of (ls0 := [(0, .ref 1), (1, .int (iI (p))), (2, .int (iI (s))), (3, .int (iI (b)))]) rfl pnX5 (fun v hv => k_cat1 rfl hv) (Nat.le_of_ble_eq_true rfl) rfl ?_
  obtain ⟨t0, t1, t2, t3, t4, t5, t6, t7, t8, t9, t10, t11⟩ := id hI
  have q1 := f_roster_r hI s b
  refine k_aload_n dX5_enter_0 0 rfl rfl (by decide) ?_
  refine k_iload_n dX5_enter_1 2 rfl rfl ?_
  refine k_iload_n dX5_enter_2 3 rfl rfl ?_
  refine k_callVr (st := []) (as := [.int (iI (s)), .int (iI (b))]) dX5_enter_3 oX5_hasClass w_520 w_521 w_522 rfl (by omega) rfl (Nat.le_of_ble_eq_true rfl) (by decide) (s_1 hsh) rfl (c_hasClass hsh hI ⟨by omega, by omega⟩ ⟨by omega, by omega⟩) ?_
  refine k_if_eq (tgt := 31) dX5_enter_6 rfl (zb_kr _) (fun h_1 => ?_) (fun h_1 => ?_)
  · have h_1 := zb_0.mp h_1
    exact k_retv dX5_enter_31 rfl (by unfold u_enter; first | exact (if_pos (by omega)).symm | exact (if_neg (by omega)).symm)
  · have h_1 := zb_n0.mp h_1
    refine k_aload_n dX5_enter_9 0 rfl rfl (by decide) ?_
    refine k_get (kf := 5) (v := .ref 4) dX5_enter_10 kcX5 w_145 (by decide) (by decide) (s_1 hsh) rfl rfl ?_
    refine k_iload_n dX5_enter_13 2 rfl rfl ?_
    refine k_iconst (v := 4) dX5_enter_14 rfl ?_
    refine k_imul dX5_enter_15 ?_
    refine k_iload_n dX5_enter_16 3 rfl rfl ?_
    refine k_iadd dX5_enter_17 ?_
    refine k_aload_n dX5_enter_18 0 rfl rfl (by decide) ?_
    refine k_iload_n dX5_enter_19 2 rfl rfl ?_
    refine k_iload_n dX5_enter_20 3 rfl rfl ?_
    refine k_callVr (st := [.int (iI ((s * 4) + b)), .ref 4]) (as := [.int (iI (s)), .int (iI (b))]) dX5_enter_21 oX5_roster w_455 w_456 w_457 rfl (by omega) rfl (Nat.le_of_ble_eq_true rfl) (by decide) (s_1 hsh) rfl (c_roster hsh hI ⟨by omega, by omega⟩ ⟨by omega, by omega⟩) ?_
    refine k_iconst (v := 1) dX5_enter_24 rfl ?_
    refine k_iload_n dX5_enter_25 1 rfl rfl ?_
    refine k_ishl (v := (iI (z_one (p)))) dX5_enter_26 (z_oneI (by omega) (by omega)) ?_
    refine k_ior (v := (iI (z_or (f_roster σ (s) (b)) (z_one (p))))) dX5_enter_27 (z_orI (by omega) (Int.le_of_lt (z_one_pos _))) ?_
    refine k_callSNr (st := []) (as := [.ref 4, .int (iI ((s * 4) + b)), .int (iI (z_or (f_roster σ (s) (b)) (z_one (p))))]) dX5_enter_28 oX7_write w_528 w_498 rfl (by omega) rfl (Nat.le_of_ble_eq_true rfl) (c_writeIn (by decide) (s_4 hsh) (by decide) (by omega) (by omega)) ?_
    exact k_retv dX5_enter_31 rfl (by unfold u_enter; first | exact (if_pos (by omega)).symm | exact (if_neg (by omega)).symm)
set_option maxHeartbeats 4000000 in
theorem c_leave (hsh : k_Main sh) (hI : k_Ty σ) {p s b : Int} (hp : -2147483648 ≤ p ∧ p < 2147483648) (hs : -2147483648 ≤ s ∧ s < 2147483648) (hb : -2147483648 ≤ b ∧ b < 2147483648) (hp0 : 0 ≤ p ∧ p < 12) : k_C E mX5_leave 3 [.ref 1, .int (iI (p)), .int (iI (s)), .int (iI (b))] sh σ 0 0 (k_ret none sh (u_leave σ p s b)) := by
  refine k_C_of (ls0 := [(0, .ref 1), (1, .int (iI (p))), (2, .int (iI (s))), (3, .int (iI (b)))]) rfl pnX5 (fun v hv => k_cat1 rfl hv) (Nat.le_of_ble_eq_true rfl) rfl ?_
  obtain ⟨t0, t1, t2, t3, t4, t5, t6, t7, t8, t9, t10, t11⟩ := id hI
  have q1 := f_roster_r hI s b
  refine k_aload_n dX5_leave_0 0 rfl rfl (by decide) ?_
  refine k_iload_n dX5_leave_1 2 rfl rfl ?_
  refine k_iload_n dX5_leave_2 3 rfl rfl ?_
  refine k_callVr (st := []) (as := [.int (iI (s)), .int (iI (b))]) dX5_leave_3 oX5_hasClass w_520 w_521 w_522 rfl (by omega) rfl (Nat.le_of_ble_eq_true rfl) (by decide) (s_1 hsh) rfl (c_hasClass hsh hI ⟨by omega, by omega⟩ ⟨by omega, by omega⟩) ?_
  refine k_if_eq (tgt := 33) dX5_leave_6 rfl (zb_kr _) (fun h_1 => ?_) (fun h_1 => ?_)
  · have h_1 := zb_0.mp h_1
    exact k_retv dX5_leave_33 rfl (by unfold u_leave; first | exact (if_pos (by omega)).symm | exact (if_neg (by omega)).symm)
  · have h_1 := zb_n0.mp h_1
    refine k_aload_n dX5_leave_9 0 rfl rfl (by decide) ?_
    refine k_get (kf := 5) (v := .ref 4) dX5_leave_10 kcX5 w_145 (by decide) (by decide) (s_1 hsh) rfl rfl ?_
    refine k_iload_n dX5_leave_13 2 rfl rfl ?_
    refine k_iconst (v := 4) dX5_leave_14 rfl ?_
    refine k_imul dX5_leave_15 ?_
    refine k_iload_n dX5_leave_16 3 rfl rfl ?_
    refine k_iadd dX5_leave_17 ?_
    refine k_aload_n dX5_leave_18 0 rfl rfl (by decide) ?_
    refine k_iload_n dX5_leave_19 2 rfl rfl ?_
    refine k_iload_n dX5_leave_20 3 rfl rfl ?_
    refine k_callVr (st := [.int (iI ((s * 4) + b)), .ref 4]) (as := [.int (iI (s)), .int (iI (b))]) dX5_leave_21 oX5_roster w_455 w_456 w_457 rfl (by omega) rfl (Nat.le_of_ble_eq_true rfl) (by decide) (s_1 hsh) rfl (c_roster hsh hI ⟨by omega, by omega⟩ ⟨by omega, by omega⟩) ?_
    refine k_iconst (v := 1) dX5_leave_24 rfl ?_
    refine k_iload_n dX5_leave_25 1 rfl rfl ?_
    refine k_ishl (v := (iI (z_one (p)))) dX5_leave_26 (z_oneI (by omega) (by omega)) ?_
    refine k_iconst (v := (-1)) dX5_leave_27 rfl ?_
    refine k_ixor (v := (iI (z_one (p)) ^^^ iI (-1))) dX5_leave_28 rfl ?_
    refine k_iand (v := (iI (z_diff (f_roster σ (s) (b)) (z_one (p))))) dX5_leave_29 (z_diffI (by omega) (by omega) (Int.le_of_lt (z_one_pos _))) ?_
    refine k_callSNr (st := []) (as := [.ref 4, .int (iI ((s * 4) + b)), .int (iI (z_diff (f_roster σ (s) (b)) (z_one (p))))]) dX5_leave_30 oX7_write w_528 w_498 rfl (by omega) rfl (Nat.le_of_ble_eq_true rfl) (c_writeIn (by decide) (s_4 hsh) (by decide) (by omega) (by omega)) ?_
    exact k_retv dX5_leave_33 rfl (by unfold u_leave; first | exact (if_pos (by omega)).symm | exact (if_neg (by omega)).symm)
set_option maxHeartbeats 4000000 in
theorem c_dropLesson (hsh : k_Main sh) (hI : k_Ty σ) {p s : Int} (hp : -2147483648 ≤ p ∧ p < 2147483648) (hs : -2147483648 ≤ s ∧ s < 2147483648) (hp0 : 0 ≤ p ∧ p < 12) : k_C E mX5_dropLesson 4 [.ref 1, .int (iI (p)), .int (iI (s))] sh σ 0 0 (k_ret (some (.int (iI (f_taken σ p s)))) sh (u_leave σ p s (f_taken σ p s))) := by
  refine k_C_of (ls0 := [(0, .ref 1), (1, .int (iI (p))), (2, .int (iI (s)))]) rfl pnX5 (fun v hv => k_cat1 rfl hv) (Nat.le_of_ble_eq_true rfl) rfl ?_
  obtain ⟨t0, t1, t2, t3, t4, t5, t6, t7, t8, t9, t10, t11⟩ := id hI
  have q1 := f_taken_r hI p s
  refine k_aload_n dX5_dropLesson_0 0 rfl rfl (by decide) ?_
  refine k_iload_n dX5_dropLesson_1 1 rfl rfl ?_
  refine k_iload_n dX5_dropLesson_2 2 rfl rfl ?_
  refine k_callVr (st := []) (as := [.int (iI (p)), .int (iI (s))]) dX5_dropLesson_3 oX5_blockTaken w_534 w_535 w_536 rfl (by omega) rfl (Nat.le_of_ble_eq_true rfl) (by decide) (s_1 hsh) rfl (c_blockTaken hsh hI ⟨by omega, by omega⟩ ⟨by omega, by omega⟩ (by omega)) ?_
  refine k_istore_n (ls' := [(0, .ref 1), (1, .int (iI (p))), (2, .int (iI (s))), (3, .int (iI (f_taken σ (p) (s))))]) dX5_dropLesson_6 rfl (by decide) rfl rfl ?_
  refine k_aload_n dX5_dropLesson_7 0 rfl rfl (by decide) ?_
  refine k_iload_n dX5_dropLesson_8 1 rfl rfl ?_
  refine k_iload_n dX5_dropLesson_9 2 rfl rfl ?_
  refine k_iload_n dX5_dropLesson_10 3 rfl rfl ?_
  refine k_callVr (st := []) (as := [.int (iI (p)), .int (iI (s)), .int (iI (f_taken σ (p) (s)))]) dX5_dropLesson_11 oX5_leave w_877 w_878 w_879 rfl (by omega) rfl (Nat.le_of_ble_eq_true rfl) (by decide) (s_1 hsh) rfl (c_leave hsh hI ⟨by omega, by omega⟩ ⟨by omega, by omega⟩ ⟨by omega, by omega⟩ (by omega)) ?_
  refine k_iload_n dX5_dropLesson_14 3 rfl rfl ?_
  exact k_reti dX5_dropLesson_15 rfl rfl (by rfl)
set_option maxHeartbeats 4000000 in
theorem c_noteMove (hsh : k_Main sh) (hI : k_Ty σ) {m p b : Int} (hm : -2147483648 ≤ m ∧ m < 2147483648) (hp : -2147483648 ≤ p ∧ p < 2147483648) (hb : -2147483648 ≤ b ∧ b < 2147483648) (hm0 : 0 ≤ m ∧ m < 4) : k_C E mX5_noteMove 2 [.ref 1, .int (iI (m)), .int (iI (p)), .int (iI (b))] sh σ 0 0 (k_ret none sh (u_note σ m p b)) := by
  refine k_C_of (ls0 := [(0, .ref 1), (1, .int (iI (m))), (2, .int (iI (p))), (3, .int (iI (b)))]) rfl pnX5 (fun v hv => k_cat1 rfl hv) (Nat.le_of_ble_eq_true rfl) rfl ?_
  obtain ⟨t0, t1, t2, t3, t4, t5, t6, t7, t8, t9, t10, t11⟩ := id hI
  refine k_aload_n dX5_noteMove_0 0 rfl rfl (by decide) ?_
  refine k_get (kf := 10) (v := .ref 8) dX5_noteMove_1 kcX5 w_157 (by decide) (by decide) (s_1 hsh) rfl rfl ?_
  refine k_iload_n dX5_noteMove_4 1 rfl rfl ?_
  refine k_iload_n dX5_noteMove_5 2 rfl rfl ?_
  refine k_callSNr (st := []) (as := [.ref 8, .int (iI (m)), .int (iI (p))]) dX5_noteMove_6 oX7_write w_528 w_498 rfl (by omega) rfl (Nat.le_of_ble_eq_true rfl) (c_writeIn (by decide) (s_8 hsh) (by decide) (by omega) (by omega)) ?_
  refine k_aload_n dX5_noteMove_9 0 rfl rfl (by decide) ?_
  refine k_get (kf := 11) (v := .ref 9) dX5_noteMove_10 kcX5 w_159 (by decide) (by decide) (s_1 hsh) rfl rfl ?_
  refine k_iload_n dX5_noteMove_13 1 rfl rfl ?_
  refine k_iload_n dX5_noteMove_14 3 rfl rfl ?_
  refine k_callSNr (st := []) (as := [.ref 9, .int (iI (m)), .int (iI (b))]) dX5_noteMove_15 oX7_write w_528 w_498 rfl (by omega) rfl (Nat.le_of_ble_eq_true rfl) (c_writeIn (by decide) (s_9 hsh) (by decide) (by omega) (by omega)) ?_
  exact k_retv dX5_noteMove_18 rfl rfl
theorem k_up4_ty {f : Nat → Int} (hI : k_Ty σ) (h : ∀ j, 0 ≤ f j ∧ f j < 4096) : k_Ty (k_up σ 4 f) := ⟨hI.1, hI.2.1, hI.2.2.1, hI.2.2.2.1, hI.2.2.2.2.1, h, hI.2.2.2.2.2.2⟩
theorem u_enter_ty {p s b : Int} (hI : k_Ty σ) (hp : 0 ≤ p ∧ p < 12) : k_Ty (u_enter σ p s b) := by
  unfold u_enter
  split
  · refine k_up4_ty hI fun j => ?_
    unfold k_u1
    split
    · exact ⟨z_or_nn _ _, z_or_lt 12 (f_roster_r hI s b).2 (z_one_lt 12 hp.2 hp.1)⟩
    · exact hI.2.2.2.2.2.1 j
  · exact hI
theorem u_leave_ty {p s b : Int} (hI : k_Ty σ) : k_Ty (u_leave σ p s b) := by
  unfold u_leave
  split
  · refine k_up4_ty hI fun j => ?_
    unfold k_u1
    split
    · exact ⟨z_diff_nn _ _, z_diff_lt 12 (f_roster_r hI s b).2⟩
    · exact hI.2.2.2.2.2.1 j
  · exact hI
theorem u_enter_ne {p s b : Int} {i : Nat} (h : i ≠ 4) : u_enter σ p s b i = σ i := by
  unfold u_enter
  split
  · exact k_up_ne h
  · rfl
theorem u_leave_ne {p s b : Int} {i : Nat} (h : i ≠ 4) : u_leave σ p s b i = σ i := by
  unfold u_leave
  split
  · exact k_up_ne h
  · rfl
def u_dropN (σ : Nat → Nat → Int) (p : Int) (n : Nat) : Nat → Nat → Int := k_fold n (fun b τ => u_leave τ p (f_lesson τ p (b : Int)) (b : Int)) σ
def u_drop (σ : Nat → Nat → Int) (p : Int) : Nat → Nat → Int := u_dropN σ p (σ 1 1).toNat
theorem u_dropN_ty (hI : k_Ty σ) (p : Int) (n : Nat) : k_Ty (u_dropN σ p n) := k_fold_inv (P := fun τ => k_Ty τ) hI (fun _ _ h => u_leave_ty h) n
theorem u_dropN_ne (p : Int) (n : Nat) {i : Nat} (hi : i ≠ 4) : u_dropN σ p n i = σ i := k_fold_inv (P := fun τ : Nat → Nat → Int => τ i = σ i) rfl (fun _ _ h => (u_leave_ne hi).trans h) n
def u_moveF (σ : Nat → Nat → Int) (e : Int) (n : Nat) : Int := match n with
  | 0 => e
  | k + 1 => σ 9 k
def u_movesN (σ : Nat → Nat → Int) (s e m : Int) (n : Nat) : Nat → Nat → Int := k_fold n (fun k τ => u_enter (u_leave τ (σ 8 k) s (u_moveF σ e k)) (σ 8 k) s (σ 9 k)) (k_up σ 1 (k_u1 (σ 1) 9 m))
def u_moves (σ : Nat → Nat → Int) (s e m : Int) : Nat → Nat → Int := u_movesN σ s e m m.toNat
theorem k_up19_ty {m : Int} (hI : k_Ty σ) (hm : -1 ≤ m ∧ m ≤ 3) : k_Ty (k_up σ 1 (k_u1 (σ 1) 9 m)) := by
  obtain ⟨t0, t1, t2, t3, t4, t5, t6, t7, t8, t9, t10, t11⟩ := hI
  exact ⟨t0, t1, t2, t3, t4, t5, t6, t7, t8, hm, t10, t11⟩
theorem u_movesN_ty {s e m : Int} (hI : k_Ty σ) (hm : -1 ≤ m ∧ m ≤ 3) (n : Nat) : k_Ty (u_movesN σ s e m n) := by
  unfold u_movesN
  exact k_fold_inv (P := k_Ty) (k_up19_ty hI hm) (fun _ _ h => u_enter_ty (u_leave_ty h) (hI.2.2.2.2.2.2.2.2.2.2.1 _)) n
theorem u_movesN_ne {s e m : Int} (n : Nat) {i : Nat} (hi : i ≠ 4) (h1 : i ≠ 1) : u_movesN σ s e m n i = σ i := k_fold_inv (P := fun τ : Nat → Nat → Int => τ i = σ i) (k_up_ne h1) (fun _ _ h => (u_enter_ne hi).trans ((u_leave_ne hi).trans h)) n
theorem u_movesN_1 {s e m : Int} (n : Nat) : u_movesN σ s e m n 1 = k_u1 (σ 1) 9 m := k_fold_inv (P := fun τ : Nat → Nat → Int => τ 1 = k_u1 (σ 1) 9 m) k_up_same (fun _ _ h => (u_enter_ne (by decide)).trans ((u_leave_ne (by decide)).trans h)) n
set_option maxHeartbeats 4000000 in
theorem c_dropLessons (hsh : k_Main sh) (hI : k_Ty σ) {p : Int} (hp : -2147483648 ≤ p ∧ p < 2147483648) (hp0 : 0 ≤ p ∧ p < 12) : k_C E mX5_dropLessons 5 [.ref 1, .int (iI (p))] sh σ 0 0 (k_ret (some (.int (iI (f_lessons σ p)))) sh (u_drop σ p)) := by
  refine k_C_of (ls0 := [(0, .ref 1), (1, .int (iI (p)))]) rfl pnX5 (fun v hv => k_cat1 rfl hv) (Nat.le_of_ble_eq_true rfl) rfl ?_
  obtain ⟨t0, t1, t2, t3, t4, t5, t6, t7, t8, t9, t10, t11⟩ := id hI
  refine k_aload_n dX5_dropLessons_0 0 rfl rfl (by decide) ?_
  refine k_iload_n dX5_dropLessons_1 1 rfl rfl ?_
  refine k_callVr (st := []) (as := [.int (iI (p))]) dX5_dropLessons_2 oX5_lessonsOf w_1101 w_448 w_449 rfl (by omega) rfl (Nat.le_of_ble_eq_true rfl) (by decide) (s_1 hsh) rfl (c_lessonsOf hsh hI ⟨by omega, by omega⟩ (by omega)) ?_
  refine k_istore_n (ls' := [(0, .ref 1), (1, .int (iI (p))), (2, .int (iI (f_lessons σ (p))))]) dX5_dropLessons_5 rfl (by decide) rfl rfl ?_
  refine k_iconst (v := 0) dX5_dropLessons_6 rfl ?_
  refine k_istore_n (ls' := [(0, .ref 1), (1, .int (iI (p))), (2, .int (iI (f_lessons σ (p)))), (3, .int (iI (0)))]) dX5_dropLessons_7 rfl (by decide) rfl rfl ?_
  refine k_down (P := fun i8 : Nat => k_V E mX5_dropLessons _ 8 [(0, .ref 1), (1, .int (iI (p))), (2, .int (iI (f_lessons σ (p)))), (3, .int (iI ((i8 : Int))))] [] sh (u_dropN σ p i8) _ _ _) ((σ 1 1).toNat) ?_ ?_
  · skip
    have hT := u_dropN_ty hI p ((σ 1 1).toNat)
    have q1 : u_dropN σ p ((σ 1 1).toNat) 1 = σ 1 := u_dropN_ne p ((σ 1 1).toNat) (by decide)
    have q2 : u_dropN σ p ((σ 1 1).toNat) 1 1 = σ 1 1 := congrFun q1 1
    have q3 : u_dropN σ p ((σ 1 1).toNat) 1 0 = σ 1 0 := congrFun q1 0
    have q4 := f_lesson_r hT p (((σ 1 1).toNat) : Int)
    refine k_iload_n dX5_dropLessons_8 3 rfl rfl ?_
    refine k_aload_n dX5_dropLessons_9 0 rfl rfl (by decide) ?_
    refine k_get (kf := 1) (v := .int (iI ((u_dropN σ p ((σ 1 1).toNat)) 1 1))) dX5_dropLessons_10 kcX5 w_135 (by decide) (by decide) (s_1 hsh) rfl rfl ?_
    refine k_icmp_ge (tgt := 34) dX5_dropLessons_13 rfl ⟨by omega, by omega⟩ ⟨by omega, by omega⟩ (fun h_1 => ?_) (fun h_1 => absurd h_1 (by omega))
    refine k_iload_n dX5_dropLessons_34 2 rfl rfl ?_
    exact k_reti dX5_dropLessons_35 rfl rfl (by rfl)
  · intro i8 hi8 ih8
    have hT := u_dropN_ty hI p i8
    have q1 : u_dropN σ p i8 1 = σ 1 := u_dropN_ne p i8 (by decide)
    have q2 : u_dropN σ p i8 1 1 = σ 1 1 := congrFun q1 1
    have q3 : u_dropN σ p i8 1 0 = σ 1 0 := congrFun q1 0
    have q4 := f_lesson_r hT p (i8 : Int)
    refine k_iload_n dX5_dropLessons_8 3 rfl rfl ?_
    refine k_aload_n dX5_dropLessons_9 0 rfl rfl (by decide) ?_
    refine k_get (kf := 1) (v := .int (iI ((u_dropN σ p i8) 1 1))) dX5_dropLessons_10 kcX5 w_135 (by decide) (by decide) (s_1 hsh) rfl rfl ?_
    refine k_icmp_ge (tgt := 34) dX5_dropLessons_13 rfl ⟨by omega, by omega⟩ ⟨by omega, by omega⟩ (fun h_2 => absurd h_2 (by omega)) (fun h_2 => ?_)
    refine k_aload_n dX5_dropLessons_16 0 rfl rfl (by decide) ?_
    refine k_iload_n dX5_dropLessons_17 1 rfl rfl ?_
    refine k_aload_n dX5_dropLessons_18 0 rfl rfl (by decide) ?_
    refine k_iload_n dX5_dropLessons_19 1 rfl rfl ?_
    refine k_iload_n dX5_dropLessons_20 3 rfl rfl ?_
    refine k_callVr (st := [.int (iI (p)), .ref 1]) (as := [.int (iI (p)), .int (iI ((i8 : Int)))]) dX5_dropLessons_21 oX5_lesson w_1102 w_1068 w_1069 rfl (by omega) rfl (Nat.le_of_ble_eq_true rfl) (by decide) (s_1 hsh) rfl (c_lesson hsh hT ⟨by omega, by omega⟩ ⟨by omega, by omega⟩ (by omega)) ?_
    refine k_iload_n dX5_dropLessons_24 3 rfl rfl ?_
    refine k_callVr (st := []) (as := [.int (iI (p)), .int (iI (f_lesson (u_dropN σ p i8) (p) ((i8 : Int)))), .int (iI ((i8 : Int)))]) dX5_dropLessons_25 oX5_leave w_877 w_878 w_879 rfl (by omega) rfl (Nat.le_of_ble_eq_true rfl) (by decide) (s_1 hsh) rfl (c_leave hsh hT ⟨by omega, by omega⟩ ⟨by omega, by omega⟩ ⟨by omega, by omega⟩ (by omega)) ?_
    refine k_iinc (ls' := [(0, .ref 1), (1, .int (iI (p))), (2, .int (iI (f_lessons σ (p)))), (3, .int (iI ((i8 : Int) + 1)))]) dX5_dropLessons_28 3 rfl (by decide) rfl rfl ?_
    refine k_goto (tgt := 8) dX5_dropLessons_31 rfl ?_
    exact ih8
set_option maxHeartbeats 4000000 in
theorem c_makeMoves (hsh : k_Main sh) (hI : k_Ty σ) {s e m : Int} (hs : -2147483648 ≤ s ∧ s < 2147483648) (he : -2147483648 ≤ e ∧ e < 2147483648) (hm : -2147483648 ≤ m ∧ m < 2147483648) (hm0 : 0 ≤ m ∧ m ≤ 3) (he0 : 0 ≤ e ∧ e < 4) : k_C E mX5_makeMoves 4 [.ref 1, .int (iI (s)), .int (iI (e)), .int (iI (m))] sh σ 0 0 (k_ret none sh (u_moves σ s e m)) := by
  refine k_C_of (ls0 := [(0, .ref 1), (1, .int (iI (s))), (2, .int (iI (e))), (3, .int (iI (m)))]) rfl pnX5 (fun v hv => k_cat1 rfl hv) (Nat.le_of_ble_eq_true rfl) rfl ?_
  obtain ⟨t0, t1, t2, t3, t4, t5, t6, t7, t8, t9, t10, t11⟩ := id hI
  refine k_aload_n dX5_makeMoves_0 0 rfl rfl (by decide) ?_
  refine k_iload_n dX5_makeMoves_1 3 rfl rfl ?_
  refine k_putf (kf := 9) dX5_makeMoves_2 kcX5 w_155 (by decide) (by decide) (s_1 hsh) rfl rfl rfl rfl ?_
  refine k_iload_n dX5_makeMoves_5 2 rfl rfl ?_
  refine k_istore (ls' := [(0, .ref 1), (1, .int (iI (s))), (2, .int (iI (e))), (3, .int (iI (m))), (4, .int (iI (e)))]) dX5_makeMoves_6 (by decide) rfl rfl ?_
  refine k_iconst (v := 0) dX5_makeMoves_8 rfl ?_
  refine k_istore (ls' := [(0, .ref 1), (1, .int (iI (s))), (2, .int (iI (e))), (3, .int (iI (m))), (4, .int (iI (e))), (5, .int (iI (0)))]) dX5_makeMoves_9 (by decide) rfl rfl ?_
  refine k_down (P := fun i11 : Nat => k_V E mX5_makeMoves _ 11 [(0, .ref 1), (1, .int (iI (s))), (2, .int (iI (e))), (3, .int (iI (m))), (4, .int (iI (u_moveF σ e i11))), (5, .int (iI ((i11 : Int))))] [] sh (u_movesN σ s e m i11) _ _ _) (m.toNat) ?_ ?_
  · skip
    have hT : k_Ty (u_movesN σ s e m (m.toNat)) := u_movesN_ty hI ⟨by omega, by omega⟩ _
    have q1 : u_movesN σ s e m (m.toNat) 1 = k_u1 (σ 1) 9 m := u_movesN_1 _
    have q2 : u_movesN σ s e m (m.toNat) 1 1 = σ 1 1 := congrFun q1 1
    have q3 : u_movesN σ s e m (m.toNat) 1 0 = σ 1 0 := congrFun q1 0
    have q8 : u_movesN σ s e m (m.toNat) 8 = σ 8 := u_movesN_ne _ (by decide) (by decide)
    have q9 : u_movesN σ s e m (m.toNat) 9 = σ 9 := u_movesN_ne _ (by decide) (by decide)
    refine k_iload dX5_makeMoves_11 5 rfl ?_
    refine k_iload_n dX5_makeMoves_13 3 rfl rfl ?_
    refine k_icmp_ge (tgt := 70) dX5_makeMoves_14 rfl ⟨by omega, by omega⟩ ⟨by omega, by omega⟩ (fun h_1 => ?_) (fun h_1 => absurd h_1 (by omega))
    exact k_retv dX5_makeMoves_70 rfl rfl
  · intro i11 hi11 ih11
    have hT : k_Ty (u_movesN σ s e m i11) := u_movesN_ty hI ⟨by omega, by omega⟩ _
    have q1 : u_movesN σ s e m i11 1 = k_u1 (σ 1) 9 m := u_movesN_1 _
    have q2 : u_movesN σ s e m i11 1 1 = σ 1 1 := congrFun q1 1
    have q3 : u_movesN σ s e m i11 1 0 = σ 1 0 := congrFun q1 0
    have q8 : u_movesN σ s e m i11 8 = σ 8 := u_movesN_ne _ (by decide) (by decide)
    have q9 : u_movesN σ s e m i11 9 = σ 9 := u_movesN_ne _ (by decide) (by decide)
    refine k_iload dX5_makeMoves_11 5 rfl ?_
    refine k_iload_n dX5_makeMoves_13 3 rfl rfl ?_
    refine k_icmp_ge (tgt := 70) dX5_makeMoves_14 rfl ⟨by omega, by omega⟩ ⟨by omega, by omega⟩ (fun h_2 => absurd h_2 (by omega)) (fun h_2 => ?_)
    have q5 := t10 i11
    have q6 := t11 i11
    have q7 : 0 ≤ u_moveF σ e i11 ∧ u_moveF σ e i11 < 4 := by cases i11 with | zero => exact he0 | succ k => exact t11 k
    refine k_aload_n dX5_makeMoves_17 0 rfl rfl (by decide) ?_
    refine k_get (kf := 11) (v := .ref 9) dX5_makeMoves_18 kcX5 w_159 (by decide) (by decide) (s_1 hsh) rfl rfl ?_
    refine k_iload dX5_makeMoves_21 5 rfl ?_
    refine k_callSNr (st := []) (as := [.ref 9, .int (iI ((i11 : Int)))]) dX5_makeMoves_23 oX7_read w_459 w_460 rfl (by omega) rfl (Nat.le_of_ble_eq_true rfl) (c_readIn (by decide) (s_9 hsh) (by decide) (by omega) (by omega)) ?_
    refine k_eqst (congrArg (fun z : Int => Value.int (iI z) :: []) (show σ 9 i11 = u_movesN σ s e m i11 9 ((i11 : Int)).toNat from by rw [q9]; rfl)) ?_
    refine k_istore (ls' := [(0, .ref 1), (1, .int (iI (s))), (2, .int (iI (e))), (3, .int (iI (m))), (4, .int (iI (u_moveF σ e i11))), (5, .int (iI ((i11 : Int)))), (6, .int (iI (σ 9 i11)))]) dX5_makeMoves_26 (by decide) rfl rfl ?_
    refine k_aload_n dX5_makeMoves_28 0 rfl rfl (by decide) ?_
    refine k_aload_n dX5_makeMoves_29 0 rfl rfl (by decide) ?_
    refine k_get (kf := 10) (v := .ref 8) dX5_makeMoves_30 kcX5 w_157 (by decide) (by decide) (s_1 hsh) rfl rfl ?_
    refine k_iload dX5_makeMoves_33 5 rfl ?_
    refine k_callSNr (st := [.ref 1]) (as := [.ref 8, .int (iI ((i11 : Int)))]) dX5_makeMoves_35 oX7_read w_459 w_460 rfl (by omega) rfl (Nat.le_of_ble_eq_true rfl) (c_readIn (by decide) (s_8 hsh) (by decide) (by omega) (by omega)) ?_
    refine k_eqst (congrArg (fun z : Int => Value.int (iI z) :: [.ref 1]) (show σ 8 i11 = u_movesN σ s e m i11 8 ((i11 : Int)).toNat from by rw [q8]; rfl)) ?_
    refine k_iload_n dX5_makeMoves_38 1 rfl rfl ?_
    refine k_iload dX5_makeMoves_39 4 rfl ?_
    refine k_callVr (st := []) (as := [.int (iI (σ 8 i11)), .int (iI (s)), .int (iI (u_moveF σ e i11))]) dX5_makeMoves_41 oX5_leave w_877 w_878 w_879 rfl (by omega) rfl (Nat.le_of_ble_eq_true rfl) (by decide) (s_1 hsh) rfl (c_leave hsh hT ⟨by omega, by omega⟩ ⟨by omega, by omega⟩ ⟨by omega, by omega⟩ (by omega)) ?_
    refine k_aload_n dX5_makeMoves_44 0 rfl rfl (by decide) ?_
    refine k_aload_n dX5_makeMoves_45 0 rfl rfl (by decide) ?_
    refine k_get (kf := 10) (v := .ref 8) dX5_makeMoves_46 kcX5 w_157 (by decide) (by decide) (s_1 hsh) rfl rfl ?_
    refine k_iload dX5_makeMoves_49 5 rfl ?_
    refine k_callSNr (st := [.ref 1]) (as := [.ref 8, .int (iI ((i11 : Int)))]) dX5_makeMoves_51 oX7_read w_459 w_460 rfl (by omega) rfl (Nat.le_of_ble_eq_true rfl) (c_readIn (by decide) (s_8 hsh) (by decide) (by omega) (by omega)) ?_
    refine k_eqst (congrArg (fun z : Int => Value.int (iI z) :: [.ref 1]) (show σ 8 i11 = u_leave (u_movesN σ s e m i11) (σ 8 i11) s (u_moveF σ e i11) 8 ((i11 : Int)).toNat from by rw [u_leave_ne (by decide), q8]; rfl)) ?_
    refine k_iload_n dX5_makeMoves_54 1 rfl rfl ?_
    refine k_iload dX5_makeMoves_55 6 rfl ?_
    refine k_callVr (st := []) (as := [.int (iI (σ 8 i11)), .int (iI (s)), .int (iI (σ 9 i11))]) dX5_makeMoves_57 oX5_enter w_881 w_517 w_518 rfl (by omega) rfl (Nat.le_of_ble_eq_true rfl) (by decide) (s_1 hsh) rfl (c_enter hsh (u_leave_ty hT) ⟨by omega, by omega⟩ ⟨by omega, by omega⟩ ⟨by omega, by omega⟩ (by omega)) ?_
    refine k_iload dX5_makeMoves_60 6 rfl ?_
    refine k_istore (ls' := [(0, .ref 1), (1, .int (iI (s))), (2, .int (iI (e))), (3, .int (iI (m))), (4, .int (iI (σ 9 i11))), (5, .int (iI ((i11 : Int)))), (6, .int (iI (σ 9 i11)))]) dX5_makeMoves_62 (by decide) rfl rfl ?_
    refine k_iinc (ls' := [(0, .ref 1), (1, .int (iI (s))), (2, .int (iI (e))), (3, .int (iI (m))), (4, .int (iI (σ 9 i11))), (5, .int (iI ((i11 : Int) + 1))), (6, .int (iI (σ 9 i11)))]) dX5_makeMoves_64 5 rfl (by decide) rfl rfl ?_
    refine k_goto (tgt := 11) dX5_makeMoves_67 rfl ?_
    refine k_dropr (ls' := [(0, .ref 1), (1, .int (iI (s))), (2, .int (iI (e))), (3, .int (iI (m))), (4, .int (iI (σ 9 i11))), (5, .int (iI ((i11 : Int) + 1)))]) (ex := [(6, .int (iI (σ 9 i11)))]) rfl ?_
    exact ih11
end K_M2
