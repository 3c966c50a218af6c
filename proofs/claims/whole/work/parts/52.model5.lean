/-! ===== THE MODEL: texts and programs ===== -/
section K_M5
variable {E : k_E} {M : k_M} {dp pc k n : Nat} {ls : List (Nat × Value)} {st : List Value} {sh : List k_Sh} {σ : Nat → Nat → Int} {r : Nat → Int} {Q : k_Q}
set_option maxHeartbeats 4000000 in
theorem c8_writes (hsh : k_Main sh) (hF : 0 ≤ σ 123 15 ∧ σ 123 15 < 40) {c : Int} (hc : 0 ≤ c ∧ c < 128) : k_C E mX8_writes 1 [.ref 123, .int (iI (c))] sh σ 0 0 (k_ret none sh (k_up (k_up σ 123 (k_u1 (σ 123) 15 (σ 123 15 + 1))) 129 (k_u1 (σ 129) (σ 123 15).toNat c))) := by
  refine k_C_of (ls0 := [(0, .ref 123), (1, .int (iI (c)))]) rfl pnX8 (fun v hv => k_cat1 rfl hv) (Nat.le_of_ble_eq_true rfl) rfl ?_
  refine k_aload_n dX8_writes_0 0 rfl rfl (by decide) ?_
  refine k_get (kf := 13) (v := .ref 129) dX8_writes_1 kcX8 w_1760 (by decide) (by decide) (s_123 hsh) rfl rfl ?_
  refine k_aload_n dX8_writes_4 0 rfl rfl (by decide) ?_
  refine k_get (kf := 15) (v := .int (iI ((σ 123) 15))) dX8_writes_5 kcX8 w_1762 (by decide) (by decide) (s_123 hsh) rfl rfl ?_
  refine k_iload_n dX8_writes_8 1 rfl rfl ?_
  refine k_castW dX8_writes_9 (by decide) (s_129 hsh) (by omega) (by omega) (by decide) (k_nC (by omega)) ?_
  refine k_eqσ (σ' := (k_up σ 129 (k_u1 (σ 129) ((σ 123) 15).toNat (c)))) rfl ?_
  refine k_aload_n dX8_writes_10 0 rfl rfl (by decide) ?_
  refine k_dup dX8_writes_11 rfl ?_
  refine k_get (kf := 15) (v := .int (iI ((σ 123) 15))) dX8_writes_12 kcX8 w_1762 (by decide) (by decide) (s_123 hsh) rfl rfl ?_
  refine k_iconst (v := 1) dX8_writes_15 rfl ?_
  refine k_iadd dX8_writes_16 ?_
  refine k_putfW (kf := 15) dX8_writes_17 kcX8 w_1762 (by decide) (by decide) (s_123 hsh) rfl rfl rfl rfl ?_
  refine k_eqσ (σ' := (k_up (k_up σ 123 (k_u1 (σ 123) 15 (((σ 123) 15) + 1))) 129 (k_u1 (σ 129) ((σ 123) 15).toNat (c)))) (show k_up (k_up σ 129 (k_u1 (σ 129) ((σ 123) 15).toNat (c))) 123 (k_u1 (σ 123) 15 (((σ 123) 15) + 1)) = _ from (k_up_comm (by decide))).symm ?_
  exact k_retv dX8_writes_20 rfl rfl
abbrev R_writeTimetable (t : Int × (Nat → Nat → Int)) : Prop := (-1 ≤ t.1 ∧ t.1 ≤ 1000) ∧ k_MA t.2
def r_writeTimetable_57 (σ : Nat → Nat → Int) (p : Int) (x57 : (Nat → Int) × (Nat → Int)) : Int × (Nat → Nat → Int) := ((x57.1) 15, (k_up (k_up σ 123 (k_u1 (x57.1) 7 (0))) 129 (x57.2)))
def b_writeTimetable_57 (σ : Nat → Nat → Int) (p : Int) (i57 : Nat) (x57 : (Nat → Int) × (Nat → Int)) : (Nat → Int) × (Nat → Int) := if ((σ 124) (105 + 4 * p + (i57 : Int)).toNat) = (-1) then if ((σ 124) (105 + 4 * p + (i57 : Int)).toNat) = (-1) then ((k_u1 (k_u1 (x57.1) 15 ((x57.1) 15 + 1)) 15 ((x57.1) 15 + 1 + 1)), (k_u1 (k_u1 (x57.2) (((x57.1) 15 : Int)).toNat (32)) (((x57.1) 15 + 1 : Int)).toNat (45))) else if ((σ 124) (105 + 4 * p + (i57 : Int)).toNat) = ((σ 124) (93 + p).toNat) then ((k_u1 (k_u1 (k_u1 (x57.1) 15 ((x57.1) 15 + 1)) 15 ((x57.1) 15 + 1 + 1)) 15 ((x57.1) 15 + 1 + 1 + 1)), (k_u1 (k_u1 (k_u1 (x57.2) (((x57.1) 15 : Int)).toNat (32)) (((x57.1) 15 + 1 : Int)).toNat (45)) (((x57.1) 15 + 1 + 1 : Int)).toNat (33))) else ((k_u1 (k_u1 (x57.1) 15 ((x57.1) 15 + 1)) 15 ((x57.1) 15 + 1 + 1)), (k_u1 (k_u1 (x57.2) (((x57.1) 15 : Int)).toNat (32)) (((x57.1) 15 + 1 : Int)).toNat (45))) else if ((σ 124) (105 + 4 * p + (i57 : Int)).toNat) = (-1) then ((k_u1 (k_u1 (x57.1) 15 ((x57.1) 15 + 1)) 15 ((x57.1) 15 + 1 + 1)), (k_u1 (k_u1 (x57.2) (((x57.1) 15 : Int)).toNat (32)) (((x57.1) 15 + 1 : Int)).toNat (48 + ((σ 124) (105 + 4 * p + (i57 : Int)).toNat)))) else if ((σ 124) (105 + 4 * p + (i57 : Int)).toNat) = ((σ 124) (93 + p).toNat) then ((k_u1 (k_u1 (k_u1 (x57.1) 15 ((x57.1) 15 + 1)) 15 ((x57.1) 15 + 1 + 1)) 15 ((x57.1) 15 + 1 + 1 + 1)), (k_u1 (k_u1 (k_u1 (x57.2) (((x57.1) 15 : Int)).toNat (32)) (((x57.1) 15 + 1 : Int)).toNat (48 + ((σ 124) (105 + 4 * p + (i57 : Int)).toNat))) (((x57.1) 15 + 1 + 1 : Int)).toNat (33))) else ((k_u1 (k_u1 (x57.1) 15 ((x57.1) 15 + 1)) 15 ((x57.1) 15 + 1 + 1)), (k_u1 (k_u1 (x57.2) (((x57.1) 15 : Int)).toNat (32)) (((x57.1) 15 + 1 : Int)).toNat (48 + ((σ 124) (105 + 4 * p + (i57 : Int)).toNat))))
def r_writeTimetable_57_2 (σ : Nat → Nat → Int) (p : Int) (x57 : (Nat → Int) × (Nat → Int)) : Int × (Nat → Nat → Int) := ((x57.1) 15, (k_up (k_up σ 123 (k_u1 (x57.1) 7 (0))) 129 (x57.2)))
def b_writeTimetable_57_2 (σ : Nat → Nat → Int) (p : Int) (i57 : Nat) (x57 : (Nat → Int) × (Nat → Int)) : (Nat → Int) × (Nat → Int) := if ((σ 124) (105 + 4 * p + (i57 : Int)).toNat) = (-1) then if ((σ 124) (105 + 4 * p + (i57 : Int)).toNat) = (-1) then ((k_u1 (k_u1 (x57.1) 15 ((x57.1) 15 + 1)) 15 ((x57.1) 15 + 1 + 1)), (k_u1 (k_u1 (x57.2) (((x57.1) 15 : Int)).toNat (32)) (((x57.1) 15 + 1 : Int)).toNat (45))) else if ((σ 124) (105 + 4 * p + (i57 : Int)).toNat) = ((σ 124) (93 + p).toNat) then ((k_u1 (k_u1 (k_u1 (x57.1) 15 ((x57.1) 15 + 1)) 15 ((x57.1) 15 + 1 + 1)) 15 ((x57.1) 15 + 1 + 1 + 1)), (k_u1 (k_u1 (k_u1 (x57.2) (((x57.1) 15 : Int)).toNat (32)) (((x57.1) 15 + 1 : Int)).toNat (45)) (((x57.1) 15 + 1 + 1 : Int)).toNat (33))) else ((k_u1 (k_u1 (x57.1) 15 ((x57.1) 15 + 1)) 15 ((x57.1) 15 + 1 + 1)), (k_u1 (k_u1 (x57.2) (((x57.1) 15 : Int)).toNat (32)) (((x57.1) 15 + 1 : Int)).toNat (45))) else if ((σ 124) (105 + 4 * p + (i57 : Int)).toNat) = (-1) then ((k_u1 (k_u1 (x57.1) 15 ((x57.1) 15 + 1)) 15 ((x57.1) 15 + 1 + 1)), (k_u1 (k_u1 (x57.2) (((x57.1) 15 : Int)).toNat (32)) (((x57.1) 15 + 1 : Int)).toNat (48 + ((σ 124) (105 + 4 * p + (i57 : Int)).toNat)))) else if ((σ 124) (105 + 4 * p + (i57 : Int)).toNat) = ((σ 124) (93 + p).toNat) then ((k_u1 (k_u1 (k_u1 (x57.1) 15 ((x57.1) 15 + 1)) 15 ((x57.1) 15 + 1 + 1)) 15 ((x57.1) 15 + 1 + 1 + 1)), (k_u1 (k_u1 (k_u1 (x57.2) (((x57.1) 15 : Int)).toNat (32)) (((x57.1) 15 + 1 : Int)).toNat (48 + ((σ 124) (105 + 4 * p + (i57 : Int)).toNat))) (((x57.1) 15 + 1 + 1 : Int)).toNat (33))) else ((k_u1 (k_u1 (x57.1) 15 ((x57.1) 15 + 1)) 15 ((x57.1) 15 + 1 + 1)), (k_u1 (k_u1 (x57.2) (((x57.1) 15 : Int)).toNat (32)) (((x57.1) 15 + 1 : Int)).toNat (48 + ((σ 124) (105 + 4 * p + (i57 : Int)).toNat))))
def m_writeTimetable (σ : Nat → Nat → Int) (p : Int) : Int × (Nat → Nat → Int) := if 0 ≤ p ∧ p < (σ 124) 2 then if p ≤ 9 then (r_writeTimetable_57 σ p) (k_it (b_writeTimetable_57 σ p) (((σ 124) 1).toNat) 0 (((k_u1 (k_u1 (k_u1 (σ 123) 15 (0)) 15 (0 + 1)) 15 (0 + 1 + 1)), (k_u1 (k_u1 (σ 129) ((0 : Int)).toNat (48 + ((p) % (10)))) ((0 + 1 : Int)).toNat (58))))) else (r_writeTimetable_57_2 σ p) (k_it (b_writeTimetable_57_2 σ p) (((σ 124) 1).toNat) 0 (((k_u1 (k_u1 (k_u1 (k_u1 (σ 123) 15 (0)) 15 (0 + 1)) 15 (0 + 1 + 1)) 15 (0 + 1 + 1 + 1)), (k_u1 (k_u1 (k_u1 (σ 129) ((0 : Int)).toNat (48 + ((p) / (10)))) ((0 + 1 : Int)).toNat (48 + ((p) % (10)))) ((0 + 1 + 1 : Int)).toNat (58))))) else (0, (k_up σ 123 (k_u1 (σ 123) 7 (1))))
set_option maxRecDepth 100000 in
set_option maxHeartbeats 4000000 in
theorem c8_writeTimetable (hsh : k_Main sh) (hMA : k_MA σ) {p : Int} (h_p : -2147483648 ≤ p ∧ p < 2147483648) : k_C E mX8_writeTimetable 4 [.ref 123, .int (iI (p))] sh σ 0 0 ((k_pP sh (R_writeTimetable)) (m_writeTimetable σ p)) := by
  refine k_C_of (ls0 := [(0, .ref 123), (1, .int (iI (p)))]) rfl pnX8 (fun v hv => k_cat1 rfl hv) (Nat.le_of_ble_eq_true rfl) rfl ?_
  obtain ⟨⟨t0, t0b⟩, ⟨t1, t1b⟩, ⟨t2, t2b⟩, ⟨t3, t3b⟩, -⟩ := id hMA.2.1
  obtain ⟨⟨f77_0, g77_0⟩, ⟨f77_1, g77_1⟩, ⟨f77_2, g77_2⟩, ⟨f77_3, g77_3⟩, ⟨f77_4, g77_4⟩, ⟨f77_5, g77_5⟩, ⟨f77_6, g77_6⟩, ⟨f77_7, g77_7⟩, ⟨f77_8, g77_8⟩, ⟨f77_9, g77_9⟩, ⟨f77_10, g77_10⟩, ⟨f77_11, g77_11⟩, ⟨f77_12, g77_12⟩, ⟨f77_13, g77_13⟩⟩ := id hMA.1
  unfold m_writeTimetable
  refine k_aload_n dX8_writeTimetable_0 0 rfl rfl (by decide) ?_
  refine k_iload_n dX8_writeTimetable_1 1 rfl rfl ?_
  refine k_callVr (st := []) (as := [.int (iI (p))]) dX8_writeTimetable_2 oX8_isPupil w_1992 w_1994 w_49 rfl (by omega) rfl (Nat.le_of_ble_eq_true rfl) (by decide) (s_123 hsh) rfl (c8_isPupil (σ := σ) hsh (hMA).2.1 ⟨by omega, by omega⟩) ?_
  refine k_if_ne (tgt := 14) dX8_writeTimetable_5 rfl (zb_kr _) (fun h2 => ?_) (fun h2 => ?_)
  · have h2 := zb_n0.mp h2
    refine k_ift (F := (k_pP sh (R_writeTimetable))) h2 ?_
    refine k_aload_n dX8_writeTimetable_14 0 rfl rfl (by decide) ?_
    refine k_iconst (v := 0) dX8_writeTimetable_15 rfl ?_
    refine k_putfW (kf := 15) dX8_writeTimetable_16 kcX8 w_1762 (by decide) (by decide) (s_123 hsh) rfl rfl rfl rfl ?_
    refine k_eqσ (σ' := (k_up σ 123 (k_u1 (σ 123) 15 (0)))) rfl ?_
    refine k_iload_n dX8_writeTimetable_19 1 rfl rfl ?_
    refine k_bipush (v := 9) dX8_writeTimetable_20 (by decide) ?_
    refine k_icmp_le (tgt := 37) dX8_writeTimetable_22 rfl ⟨by omega, by omega⟩ ⟨by decide, by decide⟩ (fun h3 => ?_) (fun h3 => ?_)
    · refine k_ift (F := (k_pP sh (R_writeTimetable))) h3 ?_
      refine k_aload_n dX8_writeTimetable_37 0 rfl rfl (by decide) ?_
      refine k_bipush (v := 48) dX8_writeTimetable_38 (by decide) ?_
      refine k_iload_n dX8_writeTimetable_40 1 rfl rfl ?_
      refine k_bipush (v := 10) dX8_writeTimetable_41 (by decide) ?_
      refine k_irem (v := (iI ((p) % (10)))) dX8_writeTimetable_43 (z_ne0 (by omega) (by omega)) (z_remI (by omega) (by omega) (by omega) (by omega)) ?_
      refine k_iadd dX8_writeTimetable_44 ?_
      refine k_i2c (v := (iI (48 + ((p) % (10))))) dX8_writeTimetable_45 (k_nB (by omega)).2.2.1 ?_
      have q4 := k_nB (e := 48 + ((p) % (10))) (by omega)
      refine k_callVr (st := []) (as := [.int (iI (48 + ((p) % (10))))]) dX8_writeTimetable_46 oX8_writes w_2236 w_2238 w_79 rfl (by omega) rfl (Nat.le_of_ble_eq_true rfl) (by decide) (s_123 hsh) rfl (c8_writes (σ := (k_up σ 123 (k_u1 (σ 123) 15 (0)))) hsh (show 0 ≤ 0 ∧ 0 < 40 from by omega) (by omega)) ?_
      refine k_eqσ (σ' := (k_up (k_up σ 123 (k_u1 (k_u1 (σ 123) 15 (0)) 15 (0 + 1))) 129 (k_u1 (σ 129) ((0 : Int)).toNat (48 + ((p) % (10)))))) (((congrArg (fun s => k_up s 129 (k_u1 (σ 129) ((0 : Int)).toNat (48 + ((p) % (10))))) (show k_up (k_up σ 123 (k_u1 (σ 123) 15 (0))) 123 (k_u1 (k_u1 (σ 123) 15 (0)) 15 (0 + 1)) = (k_up σ 123 (k_u1 (k_u1 (σ 123) 15 (0)) 15 (0 + 1))) from k_up_up)).trans (show k_up (k_up σ 123 (k_u1 (k_u1 (σ 123) 15 (0)) 15 (0 + 1))) 129 (k_u1 (σ 129) ((0 : Int)).toNat (48 + ((p) % (10)))) = (k_up (k_up σ 123 (k_u1 (k_u1 (σ 123) 15 (0)) 15 (0 + 1))) 129 (k_u1 (σ 129) ((0 : Int)).toNat (48 + ((p) % (10))))) from rfl))).symm ?_
      refine k_aload_n dX8_writeTimetable_49 0 rfl rfl (by decide) ?_
      refine k_bipush (v := 58) dX8_writeTimetable_50 (by decide) ?_
      have q6 := k_nB (e := 58) (by omega)
      refine k_callVr (st := []) (as := [.int (iI (58))]) dX8_writeTimetable_52 oX8_writes w_2236 w_2238 w_79 rfl (by omega) rfl (Nat.le_of_ble_eq_true rfl) (by decide) (s_123 hsh) rfl (c8_writes (σ := (k_up (k_up σ 123 (k_u1 (k_u1 (σ 123) 15 (0)) 15 (0 + 1))) 129 (k_u1 (σ 129) ((0 : Int)).toNat (48 + ((p) % (10)))))) hsh (show 0 ≤ 0 + 1 ∧ 0 + 1 < 40 from by omega) (by omega)) ?_
      refine k_eqσ (σ' := (k_up (k_up σ 123 (k_u1 (k_u1 (k_u1 (σ 123) 15 (0)) 15 (0 + 1)) 15 (0 + 1 + 1))) 129 (k_u1 (k_u1 (σ 129) ((0 : Int)).toNat (48 + ((p) % (10)))) ((0 + 1 : Int)).toNat (58)))) (((congrArg (fun s => k_up s 129 (k_u1 (k_u1 (σ 129) ((0 : Int)).toNat (48 + ((p) % (10)))) ((0 + 1 : Int)).toNat (58))) (show k_up (k_up (k_up σ 123 (k_u1 (k_u1 (σ 123) 15 (0)) 15 (0 + 1))) 129 (k_u1 (σ 129) ((0 : Int)).toNat (48 + ((p) % (10))))) 123 (k_u1 (k_u1 (k_u1 (σ 123) 15 (0)) 15 (0 + 1)) 15 (0 + 1 + 1)) = (k_up (k_up σ 123 (k_u1 (k_u1 (k_u1 (σ 123) 15 (0)) 15 (0 + 1)) 15 (0 + 1 + 1))) 129 (k_u1 (σ 129) ((0 : Int)).toNat (48 + ((p) % (10))))) from ((k_up_comm (by decide)).trans (congrArg (fun s => k_up s 129 _) k_up_up)))).trans (show k_up (k_up (k_up σ 123 (k_u1 (k_u1 (k_u1 (σ 123) 15 (0)) 15 (0 + 1)) 15 (0 + 1 + 1))) 129 (k_u1 (σ 129) ((0 : Int)).toNat (48 + ((p) % (10))))) 129 (k_u1 (k_u1 (σ 129) ((0 : Int)).toNat (48 + ((p) % (10)))) ((0 + 1 : Int)).toNat (58)) = (k_up (k_up σ 123 (k_u1 (k_u1 (k_u1 (σ 123) 15 (0)) 15 (0 + 1)) 15 (0 + 1 + 1))) 129 (k_u1 (k_u1 (σ 129) ((0 : Int)).toNat (48 + ((p) % (10)))) ((0 + 1 : Int)).toNat (58))) from k_up_up))).symm ?_
      refine k_iconst (v := 0) dX8_writeTimetable_55 rfl ?_
      refine k_istore_n (ls' := [(0, .ref 123), (1, .int (iI (p))), (2, .int (iI (0)))]) dX8_writeTimetable_56 rfl (by decide) rfl rfl ?_
      refine k_loop (α := (Nat → Int) × (Nat → Int)) (P := fun (i57 : Nat) (x57 : (Nat → Int) × (Nat → Int)) Q => k_V E mX8_writeTimetable _ 57 [(0, .ref 123), (1, .int (iI (p))), (2, .int (iI ((i57 : Int))))] [] sh (k_up (k_up σ 123 (x57.1)) 129 (x57.2)) _ _ Q) (J := fun (i57 : Nat) (x57 : (Nat → Int) × (Nat → Int)) => (0 ≤ (x57.1) 15 ∧ (x57.1) 15 ≤ 3 + 3 * (i57 : Int)) ∧ ((k_F0 x57.1)) ∧ (k_rg 0 127 x57.2)) (((σ 124) 1).toNat) (b_writeTimetable_57 σ p) (((k_u1 (k_u1 (k_u1 (σ 123) 15 (0)) 15 (0 + 1)) 15 (0 + 1 + 1)), (k_u1 (k_u1 (σ 129) ((0 : Int)).toNat (48 + ((p) % (10)))) ((0 + 1 : Int)).toNat (58)))) (F := fun t => (k_pP sh (R_writeTimetable)) ((r_writeTimetable_57 σ p) t)) (show (0 ≤ ((k_u1 (k_u1 (k_u1 (σ 123) 15 (0)) 15 (0 + 1)) 15 (0 + 1 + 1))) 15 ∧ ((k_u1 (k_u1 (k_u1 (σ 123) 15 (0)) 15 (0 + 1)) 15 (0 + 1 + 1))) 15 ≤ 3 + 3 * ((0 : Nat) : Int)) ∧ ((k_F0 (k_u1 (k_u1 (k_u1 (σ 123) 15 (0)) 15 (0 + 1)) 15 (0 + 1 + 1)))) ∧ (k_rg 0 127 (k_u1 (k_u1 (σ 129) ((0 : Int)).toNat (48 + ((p) % (10)))) ((0 + 1 : Int)).toNat (58))) from ⟨(show 0 ≤ 0 + 1 + 1 ∧ 0 + 1 + 1 ≤ 3 + 3 * ((0 : Nat) : Int) from by omega), (show k_F0 (k_u1 (k_u1 (k_u1 (σ 123) 15 (0)) 15 (0 + 1)) 15 (0 + 1 + 1)) from (k_F0_u (show k_F0 (k_u1 (k_u1 (σ 123) 15 (0)) 15 (0 + 1)) from (k_F0_u (show k_F0 (k_u1 (σ 123) 15 (0)) from (k_F0_u (hMA).1 (by omega))) (by omega))) (by omega))), (show k_rg 0 127 (k_u1 (k_u1 (σ 129) ((0 : Int)).toNat (48 + ((p) % (10)))) ((0 + 1 : Int)).toNat (58)) from (k_rg_u (show k_rg 0 127 (k_u1 (σ 129) ((0 : Int)).toNat (48 + ((p) % (10)))) from (k_rg_u (hMA).2.2.1 (by omega))) (by omega)))⟩) ?_ ?_
      · intro x57 hJ57
        have hJ57 : (0 ≤ (x57.1) 15 ∧ (x57.1) 15 ≤ 3 + 3 * ((((σ 124) 1).toNat : Nat) : Int)) ∧ ((k_F0 x57.1)) ∧ (k_rg 0 127 x57.2) := hJ57
        obtain ⟨hU57, hW57_123, hW57_129⟩ := id hJ57
        obtain ⟨⟨f9_0, g9_0⟩, ⟨f9_1, g9_1⟩, ⟨f9_2, g9_2⟩, ⟨f9_3, g9_3⟩, ⟨f9_4, g9_4⟩, ⟨f9_5, g9_5⟩, ⟨f9_6, g9_6⟩, ⟨f9_7, g9_7⟩, ⟨f9_8, g9_8⟩, ⟨f9_9, g9_9⟩, ⟨f9_10, g9_10⟩, ⟨f9_11, g9_11⟩, ⟨f9_12, g9_12⟩, ⟨f9_13, g9_13⟩⟩ := id hW57_123
        show k_V E mX8_writeTimetable _ 57 [(0, .ref 123), (1, .int (iI (p))), (2, .int (iI (((((σ 124) 1).toNat : Nat) : Int))))] [] sh (k_up (k_up σ 123 (x57.1)) 129 (x57.2)) _ _ ((k_pP sh (R_writeTimetable)) ((r_writeTimetable_57 σ p) x57))
        unfold r_writeTimetable_57
        refine k_iload_n dX8_writeTimetable_57 2 rfl rfl ?_
        refine k_aload_n dX8_writeTimetable_58 0 rfl rfl (by decide) ?_
        refine k_get (kf := 0) (v := .ref 124) dX8_writeTimetable_59 kcX8 w_1747 (by decide) (by decide) (s_123 hsh) rfl rfl ?_
        refine k_iconst (v := 1) dX8_writeTimetable_62 rfl ?_
        refine k_iald dX8_writeTimetable_63 (by decide) (s_124 hsh) (by omega) (by omega) (by decide) ?_
        refine k_eqst (st' := [.int (iI ((σ 124) 1)), .int (iI (((((σ 124) 1).toNat : Nat) : Int)))]) rfl ?_
        refine k_icmp_ge (tgt := 129) dX8_writeTimetable_64 rfl ⟨by omega, by omega⟩ ⟨by omega, by omega⟩ (fun h10 => ?_) (fun h10 => absurd h10 (by omega))
        refine k_aload_n dX8_writeTimetable_129 0 rfl rfl (by decide) ?_
        refine k_aload_n dX8_writeTimetable_130 0 rfl rfl (by decide) ?_
        refine k_get (kf := 15) (v := .int (iI ((x57.1) 15))) dX8_writeTimetable_131 kcX8 w_1762 (by decide) (by decide) (s_123 hsh) rfl rfl ?_
        refine k_callVr (st := []) (as := [.int (iI ((x57.1) 15))]) dX8_writeTimetable_134 oX8_tells w_1854 w_1856 w_32 rfl (by omega) rfl (Nat.le_of_ble_eq_true rfl) (by decide) (s_123 hsh) rfl (c8_tells hsh) ?_
        refine k_eqσ (σ' := (k_up (k_up σ 123 (k_u1 (x57.1) 7 (0))) 129 (x57.2))) ((show k_up (k_up (k_up σ 123 (x57.1)) 129 (x57.2)) 123 (k_u1 (x57.1) 7 (0)) = (k_up (k_up σ 123 (k_u1 (x57.1) 7 (0))) 129 (x57.2)) from ((k_up_comm (by decide)).trans (congrArg (fun s => k_up s 129 _) k_up_up)))).symm ?_
        exact k_retiP dX8_writeTimetable_137 rfl rfl rfl (show (-1 ≤ (x57.1) 15 ∧ (x57.1) 15 ≤ 1000) ∧ k_MA (k_up (k_up σ 123 (k_u1 (x57.1) 7 (0))) 129 (x57.2)) from ⟨by omega, ⟨(show k_F0 (k_u1 (x57.1) 7 (0)) from (k_F0_u hW57_123 (by omega))), (hMA).2.1, hW57_129, (hMA).2.2.2.1, (hMA).2.2.2.2.1, (hMA).2.2.2.2.2.1, (hMA).2.2.2.2.2.2.1, (hMA).2.2.2.2.2.2.2.1, (hMA).2.2.2.2.2.2.2.2.1, (hMA).2.2.2.2.2.2.2.2.2.1, (hMA).2.2.2.2.2.2.2.2.2.2.1, (hMA).2.2.2.2.2.2.2.2.2.2.2.1, (hMA).2.2.2.2.2.2.2.2.2.2.2.2⟩⟩)
      · intro n57 i57 x57 hi57 hJ57 ih57
        have hJ57 : (0 ≤ (x57.1) 15 ∧ (x57.1) 15 ≤ 3 + 3 * (i57 : Int)) ∧ ((k_F0 x57.1)) ∧ (k_rg 0 127 x57.2) := hJ57
        obtain ⟨hU57, hW57_123, hW57_129⟩ := id hJ57
        obtain ⟨⟨f12_0, g12_0⟩, ⟨f12_1, g12_1⟩, ⟨f12_2, g12_2⟩, ⟨f12_3, g12_3⟩, ⟨f12_4, g12_4⟩, ⟨f12_5, g12_5⟩, ⟨f12_6, g12_6⟩, ⟨f12_7, g12_7⟩, ⟨f12_8, g12_8⟩, ⟨f12_9, g12_9⟩, ⟨f12_10, g12_10⟩, ⟨f12_11, g12_11⟩, ⟨f12_12, g12_12⟩, ⟨f12_13, g12_13⟩⟩ := id hW57_123
        show k_V E mX8_writeTimetable _ 57 [(0, .ref 123), (1, .int (iI (p))), (2, .int (iI ((i57 : Int))))] [] sh (k_up (k_up σ 123 (x57.1)) 129 (x57.2)) _ _ ((fun t => (k_pP sh (R_writeTimetable)) ((r_writeTimetable_57 σ p) (k_it (b_writeTimetable_57 σ p) n57 (i57 + 1) t))) ((b_writeTimetable_57 σ p) i57 x57))
        unfold b_writeTimetable_57
        refine k_iload_n dX8_writeTimetable_57 2 rfl rfl ?_
        refine k_aload_n dX8_writeTimetable_58 0 rfl rfl (by decide) ?_
        refine k_get (kf := 0) (v := .ref 124) dX8_writeTimetable_59 kcX8 w_1747 (by decide) (by decide) (s_123 hsh) rfl rfl ?_
        refine k_iconst (v := 1) dX8_writeTimetable_62 rfl ?_
        refine k_iald dX8_writeTimetable_63 (by decide) (s_124 hsh) (by omega) (by omega) (by decide) ?_
        refine k_eqst (st' := [.int (iI ((σ 124) 1)), .int (iI ((i57 : Int)))]) rfl ?_
        refine k_icmp_ge (tgt := 129) dX8_writeTimetable_64 rfl ⟨by omega, by omega⟩ ⟨by omega, by omega⟩ (fun h13 => absurd h13 (by omega)) (fun h13 => ?_)
        refine k_aload_n dX8_writeTimetable_67 0 rfl rfl (by decide) ?_
        refine k_iload_n dX8_writeTimetable_68 1 rfl rfl ?_
        refine k_iload_n dX8_writeTimetable_69 2 rfl rfl ?_
        refine k_callVr (st := []) (as := [.int (iI (p)), .int (iI ((i57 : Int)))]) dX8_writeTimetable_70 oX8_subjectOf w_1908 w_1910 w_40 rfl (by omega) rfl (Nat.le_of_ble_eq_true rfl) (by decide) (s_123 hsh) rfl (c8_subjectOf (σ := (k_up (k_up σ 123 (x57.1)) 129 (x57.2))) hsh (hMA).2.1 (by omega) (by omega)) ?_
        refine k_eqst (st' := [.int (iI ((σ 124) (105 + 4 * p + (i57 : Int)).toNat))]) rfl ?_
        have q14 := k_Mo_tab (hMA).2.1 (x := 105 + 4 * p + (i57 : Int)) (by omega) (by omega)
        refine k_istore_n (ls' := [(0, .ref 123), (1, .int (iI (p))), (2, .int (iI ((i57 : Int)))), (3, .int (iI ((σ 124) (105 + 4 * p + (i57 : Int)).toNat)))]) dX8_writeTimetable_73 rfl (by decide) rfl rfl ?_
        refine k_aload_n dX8_writeTimetable_74 0 rfl rfl (by decide) ?_
        refine k_bipush (v := 32) dX8_writeTimetable_75 (by decide) ?_
        have q16 := k_nB (e := 32) (by omega)
        refine k_callVr (st := []) (as := [.int (iI (32))]) dX8_writeTimetable_77 oX8_writes w_2236 w_2238 w_79 rfl (by omega) rfl (Nat.le_of_ble_eq_true rfl) (by decide) (s_123 hsh) rfl (c8_writes (σ := (k_up (k_up σ 123 (x57.1)) 129 (x57.2))) hsh (show 0 ≤ (x57.1) 15 ∧ (x57.1) 15 < 40 from by omega) (by omega)) ?_
        refine k_eqσ (σ' := (k_up (k_up σ 123 (k_u1 (x57.1) 15 ((x57.1) 15 + 1))) 129 (k_u1 (x57.2) (((x57.1) 15 : Int)).toNat (32)))) (((congrArg (fun s => k_up s 129 (k_u1 (x57.2) (((x57.1) 15 : Int)).toNat (32))) (show k_up (k_up (k_up σ 123 (x57.1)) 129 (x57.2)) 123 (k_u1 (x57.1) 15 ((x57.1) 15 + 1)) = (k_up (k_up σ 123 (k_u1 (x57.1) 15 ((x57.1) 15 + 1))) 129 (x57.2)) from ((k_up_comm (by decide)).trans (congrArg (fun s => k_up s 129 _) k_up_up)))).trans (show k_up (k_up (k_up σ 123 (k_u1 (x57.1) 15 ((x57.1) 15 + 1))) 129 (x57.2)) 129 (k_u1 (x57.2) (((x57.1) 15 : Int)).toNat (32)) = (k_up (k_up σ 123 (k_u1 (x57.1) 15 ((x57.1) 15 + 1))) 129 (k_u1 (x57.2) (((x57.1) 15 : Int)).toNat (32))) from k_up_up))).symm ?_
        refine k_aload_n dX8_writeTimetable_80 0 rfl rfl (by decide) ?_
        refine k_iload_n dX8_writeTimetable_81 3 rfl rfl ?_
        refine k_iconst (v := (-1)) dX8_writeTimetable_82 rfl ?_
        refine k_icmp_ne (tgt := 91) dX8_writeTimetable_83 rfl ⟨by omega, by omega⟩ ⟨by decide, by decide⟩ (fun h18 => ?_) (fun h18 => ?_)
        · refine k_iff (F := (fun t => (k_pP sh (R_writeTimetable)) ((r_writeTimetable_57 σ p) (k_it (b_writeTimetable_57 σ p) n57 (i57 + 1) t)))) h18 ?_
          refine k_bipush (v := 48) dX8_writeTimetable_91 (by decide) ?_
          refine k_iload_n dX8_writeTimetable_93 3 rfl rfl ?_
          refine k_iadd dX8_writeTimetable_94 ?_
          refine k_i2c (v := (iI (48 + ((σ 124) (105 + 4 * p + (i57 : Int)).toNat)))) dX8_writeTimetable_95 (k_nB (by omega)).2.2.1 ?_
          have q19 := k_nB (e := 48 + ((σ 124) (105 + 4 * p + (i57 : Int)).toNat)) (by omega)
          refine k_callVr (st := []) (as := [.int (iI (48 + ((σ 124) (105 + 4 * p + (i57 : Int)).toNat)))]) dX8_writeTimetable_96 oX8_writes w_2236 w_2238 w_79 rfl (by omega) rfl (Nat.le_of_ble_eq_true rfl) (by decide) (s_123 hsh) rfl (c8_writes (σ := (k_up (k_up σ 123 (k_u1 (x57.1) 15 ((x57.1) 15 + 1))) 129 (k_u1 (x57.2) (((x57.1) 15 : Int)).toNat (32)))) hsh (show 0 ≤ (x57.1) 15 + 1 ∧ (x57.1) 15 + 1 < 40 from by omega) (by omega)) ?_
          refine k_eqσ (σ' := (k_up (k_up σ 123 (k_u1 (k_u1 (x57.1) 15 ((x57.1) 15 + 1)) 15 ((x57.1) 15 + 1 + 1))) 129 (k_u1 (k_u1 (x57.2) (((x57.1) 15 : Int)).toNat (32)) (((x57.1) 15 + 1 : Int)).toNat (48 + ((σ 124) (105 + 4 * p + (i57 : Int)).toNat))))) (((congrArg (fun s => k_up s 129 (k_u1 (k_u1 (x57.2) (((x57.1) 15 : Int)).toNat (32)) (((x57.1) 15 + 1 : Int)).toNat (48 + ((σ 124) (105 + 4 * p + (i57 : Int)).toNat)))) (show k_up (k_up (k_up σ 123 (k_u1 (x57.1) 15 ((x57.1) 15 + 1))) 129 (k_u1 (x57.2) (((x57.1) 15 : Int)).toNat (32))) 123 (k_u1 (k_u1 (x57.1) 15 ((x57.1) 15 + 1)) 15 ((x57.1) 15 + 1 + 1)) = (k_up (k_up σ 123 (k_u1 (k_u1 (x57.1) 15 ((x57.1) 15 + 1)) 15 ((x57.1) 15 + 1 + 1))) 129 (k_u1 (x57.2) (((x57.1) 15 : Int)).toNat (32))) from ((k_up_comm (by decide)).trans (congrArg (fun s => k_up s 129 _) k_up_up)))).trans (show k_up (k_up (k_up σ 123 (k_u1 (k_u1 (x57.1) 15 ((x57.1) 15 + 1)) 15 ((x57.1) 15 + 1 + 1))) 129 (k_u1 (x57.2) (((x57.1) 15 : Int)).toNat (32))) 129 (k_u1 (k_u1 (x57.2) (((x57.1) 15 : Int)).toNat (32)) (((x57.1) 15 + 1 : Int)).toNat (48 + ((σ 124) (105 + 4 * p + (i57 : Int)).toNat))) = (k_up (k_up σ 123 (k_u1 (k_u1 (x57.1) 15 ((x57.1) 15 + 1)) 15 ((x57.1) 15 + 1 + 1))) 129 (k_u1 (k_u1 (x57.2) (((x57.1) 15 : Int)).toNat (32)) (((x57.1) 15 + 1 : Int)).toNat (48 + ((σ 124) (105 + 4 * p + (i57 : Int)).toNat)))) from k_up_up))).symm ?_
          refine k_iload_n dX8_writeTimetable_99 3 rfl rfl ?_
          refine k_iconst (v := (-1)) dX8_writeTimetable_100 rfl ?_
          refine k_icmp_eq (tgt := 123) dX8_writeTimetable_101 rfl ⟨by omega, by omega⟩ ⟨by decide, by decide⟩ (fun h21 => ?_) (fun h21 => ?_)
          · refine k_ift (F := (fun t => (k_pP sh (R_writeTimetable)) ((r_writeTimetable_57 σ p) (k_it (b_writeTimetable_57 σ p) n57 (i57 + 1) t)))) h21 ?_
            refine k_iinc (ls' := [(0, .ref 123), (1, .int (iI (p))), (2, .int (iI ((i57 : Int) + 1))), (3, .int (iI ((σ 124) (105 + 4 * p + (i57 : Int)).toNat)))]) dX8_writeTimetable_123 2 rfl (by decide) rfl rfl ?_
            refine k_goto (tgt := 57) dX8_writeTimetable_126 rfl ?_
            refine k_dropr (ls' := [(0, .ref 123), (1, .int (iI (p))), (2, .int (iI ((i57 : Int) + 1)))]) (ex := [(3, .int (iI ((σ 124) (105 + 4 * p + (i57 : Int)).toNat)))]) rfl ?_
            have y22 : (k_u1 (k_u1 (x57.1) 15 ((x57.1) 15 + 1)) 15 ((x57.1) 15 + 1 + 1)) 15 = (x57.1) 15 + 1 + 1 := rfl
            exact ih57 (((k_u1 (k_u1 (x57.1) 15 ((x57.1) 15 + 1)) 15 ((x57.1) 15 + 1 + 1)), (k_u1 (k_u1 (x57.2) (((x57.1) 15 : Int)).toNat (32)) (((x57.1) 15 + 1 : Int)).toNat (48 + ((σ 124) (105 + 4 * p + (i57 : Int)).toNat))))) (show (0 ≤ ((k_u1 (k_u1 (x57.1) 15 ((x57.1) 15 + 1)) 15 ((x57.1) 15 + 1 + 1))) 15 ∧ ((k_u1 (k_u1 (x57.1) 15 ((x57.1) 15 + 1)) 15 ((x57.1) 15 + 1 + 1))) 15 ≤ 3 + 3 * ((i57 + 1 : Nat) : Int)) ∧ ((k_F0 (k_u1 (k_u1 (x57.1) 15 ((x57.1) 15 + 1)) 15 ((x57.1) 15 + 1 + 1)))) ∧ (k_rg 0 127 (k_u1 (k_u1 (x57.2) (((x57.1) 15 : Int)).toNat (32)) (((x57.1) 15 + 1 : Int)).toNat (48 + ((σ 124) (105 + 4 * p + (i57 : Int)).toNat)))) from ⟨(by omega), (show k_F0 (k_u1 (k_u1 (x57.1) 15 ((x57.1) 15 + 1)) 15 ((x57.1) 15 + 1 + 1)) from (k_F0_u (show k_F0 (k_u1 (x57.1) 15 ((x57.1) 15 + 1)) from (k_F0_u hW57_123 (by omega))) (by omega))), (show k_rg 0 127 (k_u1 (k_u1 (x57.2) (((x57.1) 15 : Int)).toNat (32)) (((x57.1) 15 + 1 : Int)).toNat (48 + ((σ 124) (105 + 4 * p + (i57 : Int)).toNat))) from (k_rg_u (show k_rg 0 127 (k_u1 (x57.2) (((x57.1) 15 : Int)).toNat (32)) from (k_rg_u hW57_129 (by omega))) (by omega)))⟩)
          · refine k_iff (F := (fun t => (k_pP sh (R_writeTimetable)) ((r_writeTimetable_57 σ p) (k_it (b_writeTimetable_57 σ p) n57 (i57 + 1) t)))) h21 ?_
            refine k_iload_n dX8_writeTimetable_104 3 rfl rfl ?_
            refine k_aload_n dX8_writeTimetable_105 0 rfl rfl (by decide) ?_
            refine k_get (kf := 0) (v := .ref 124) dX8_writeTimetable_106 kcX8 w_1747 (by decide) (by decide) (s_123 hsh) rfl rfl ?_
            refine k_bipush (v := 93) dX8_writeTimetable_109 (by decide) ?_
            refine k_iload_n dX8_writeTimetable_111 1 rfl rfl ?_
            refine k_iadd dX8_writeTimetable_112 ?_
            refine k_iald dX8_writeTimetable_113 (by decide) (s_124 hsh) (by omega) (by omega) (by decide) ?_
            refine k_eqst (st' := [.int (iI ((σ 124) (93 + p).toNat)), .int (iI ((σ 124) (105 + 4 * p + (i57 : Int)).toNat))]) rfl ?_
            have q23 := k_Mo_res (hMA).2.1 (x := 93 + p) (by omega) (by omega)
            refine k_icmp_ne (tgt := 123) dX8_writeTimetable_114 rfl ⟨by omega, by omega⟩ ⟨by omega, by omega⟩ (fun h24 => ?_) (fun h24 => ?_)
            · refine k_iff (F := (fun t => (k_pP sh (R_writeTimetable)) ((r_writeTimetable_57 σ p) (k_it (b_writeTimetable_57 σ p) n57 (i57 + 1) t)))) h24 ?_
              refine k_iinc (ls' := [(0, .ref 123), (1, .int (iI (p))), (2, .int (iI ((i57 : Int) + 1))), (3, .int (iI ((σ 124) (105 + 4 * p + (i57 : Int)).toNat)))]) dX8_writeTimetable_123 2 rfl (by decide) rfl rfl ?_
              refine k_goto (tgt := 57) dX8_writeTimetable_126 rfl ?_
              refine k_dropr (ls' := [(0, .ref 123), (1, .int (iI (p))), (2, .int (iI ((i57 : Int) + 1)))]) (ex := [(3, .int (iI ((σ 124) (105 + 4 * p + (i57 : Int)).toNat)))]) rfl ?_
              have y25 : (k_u1 (k_u1 (x57.1) 15 ((x57.1) 15 + 1)) 15 ((x57.1) 15 + 1 + 1)) 15 = (x57.1) 15 + 1 + 1 := rfl
              exact ih57 (((k_u1 (k_u1 (x57.1) 15 ((x57.1) 15 + 1)) 15 ((x57.1) 15 + 1 + 1)), (k_u1 (k_u1 (x57.2) (((x57.1) 15 : Int)).toNat (32)) (((x57.1) 15 + 1 : Int)).toNat (48 + ((σ 124) (105 + 4 * p + (i57 : Int)).toNat))))) (show (0 ≤ ((k_u1 (k_u1 (x57.1) 15 ((x57.1) 15 + 1)) 15 ((x57.1) 15 + 1 + 1))) 15 ∧ ((k_u1 (k_u1 (x57.1) 15 ((x57.1) 15 + 1)) 15 ((x57.1) 15 + 1 + 1))) 15 ≤ 3 + 3 * ((i57 + 1 : Nat) : Int)) ∧ ((k_F0 (k_u1 (k_u1 (x57.1) 15 ((x57.1) 15 + 1)) 15 ((x57.1) 15 + 1 + 1)))) ∧ (k_rg 0 127 (k_u1 (k_u1 (x57.2) (((x57.1) 15 : Int)).toNat (32)) (((x57.1) 15 + 1 : Int)).toNat (48 + ((σ 124) (105 + 4 * p + (i57 : Int)).toNat)))) from ⟨(by omega), (show k_F0 (k_u1 (k_u1 (x57.1) 15 ((x57.1) 15 + 1)) 15 ((x57.1) 15 + 1 + 1)) from (k_F0_u (show k_F0 (k_u1 (x57.1) 15 ((x57.1) 15 + 1)) from (k_F0_u hW57_123 (by omega))) (by omega))), (show k_rg 0 127 (k_u1 (k_u1 (x57.2) (((x57.1) 15 : Int)).toNat (32)) (((x57.1) 15 + 1 : Int)).toNat (48 + ((σ 124) (105 + 4 * p + (i57 : Int)).toNat))) from (k_rg_u (show k_rg 0 127 (k_u1 (x57.2) (((x57.1) 15 : Int)).toNat (32)) from (k_rg_u hW57_129 (by omega))) (by omega)))⟩)
            · refine k_ift (F := (fun t => (k_pP sh (R_writeTimetable)) ((r_writeTimetable_57 σ p) (k_it (b_writeTimetable_57 σ p) n57 (i57 + 1) t)))) h24 ?_
              refine k_aload_n dX8_writeTimetable_117 0 rfl rfl (by decide) ?_
              refine k_bipush (v := 33) dX8_writeTimetable_118 (by decide) ?_
              have q26 := k_nB (e := 33) (by omega)
              refine k_callVr (st := []) (as := [.int (iI (33))]) dX8_writeTimetable_120 oX8_writes w_2236 w_2238 w_79 rfl (by omega) rfl (Nat.le_of_ble_eq_true rfl) (by decide) (s_123 hsh) rfl (c8_writes (σ := (k_up (k_up σ 123 (k_u1 (k_u1 (x57.1) 15 ((x57.1) 15 + 1)) 15 ((x57.1) 15 + 1 + 1))) 129 (k_u1 (k_u1 (x57.2) (((x57.1) 15 : Int)).toNat (32)) (((x57.1) 15 + 1 : Int)).toNat (48 + ((σ 124) (105 + 4 * p + (i57 : Int)).toNat))))) hsh (show 0 ≤ (x57.1) 15 + 1 + 1 ∧ (x57.1) 15 + 1 + 1 < 40 from by omega) (by omega)) ?_
              refine k_eqσ (σ' := (k_up (k_up σ 123 (k_u1 (k_u1 (k_u1 (x57.1) 15 ((x57.1) 15 + 1)) 15 ((x57.1) 15 + 1 + 1)) 15 ((x57.1) 15 + 1 + 1 + 1))) 129 (k_u1 (k_u1 (k_u1 (x57.2) (((x57.1) 15 : Int)).toNat (32)) (((x57.1) 15 + 1 : Int)).toNat (48 + ((σ 124) (105 + 4 * p + (i57 : Int)).toNat))) (((x57.1) 15 + 1 + 1 : Int)).toNat (33)))) (((congrArg (fun s => k_up s 129 (k_u1 (k_u1 (k_u1 (x57.2) (((x57.1) 15 : Int)).toNat (32)) (((x57.1) 15 + 1 : Int)).toNat (48 + ((σ 124) (105 + 4 * p + (i57 : Int)).toNat))) (((x57.1) 15 + 1 + 1 : Int)).toNat (33))) (show k_up (k_up (k_up σ 123 (k_u1 (k_u1 (x57.1) 15 ((x57.1) 15 + 1)) 15 ((x57.1) 15 + 1 + 1))) 129 (k_u1 (k_u1 (x57.2) (((x57.1) 15 : Int)).toNat (32)) (((x57.1) 15 + 1 : Int)).toNat (48 + ((σ 124) (105 + 4 * p + (i57 : Int)).toNat)))) 123 (k_u1 (k_u1 (k_u1 (x57.1) 15 ((x57.1) 15 + 1)) 15 ((x57.1) 15 + 1 + 1)) 15 ((x57.1) 15 + 1 + 1 + 1)) = (k_up (k_up σ 123 (k_u1 (k_u1 (k_u1 (x57.1) 15 ((x57.1) 15 + 1)) 15 ((x57.1) 15 + 1 + 1)) 15 ((x57.1) 15 + 1 + 1 + 1))) 129 (k_u1 (k_u1 (x57.2) (((x57.1) 15 : Int)).toNat (32)) (((x57.1) 15 + 1 : Int)).toNat (48 + ((σ 124) (105 + 4 * p + (i57 : Int)).toNat)))) from ((k_up_comm (by decide)).trans (congrArg (fun s => k_up s 129 _) k_up_up)))).trans (show k_up (k_up (k_up σ 123 (k_u1 (k_u1 (k_u1 (x57.1) 15 ((x57.1) 15 + 1)) 15 ((x57.1) 15 + 1 + 1)) 15 ((x57.1) 15 + 1 + 1 + 1))) 129 (k_u1 (k_u1 (x57.2) (((x57.1) 15 : Int)).toNat (32)) (((x57.1) 15 + 1 : Int)).toNat (48 + ((σ 124) (105 + 4 * p + (i57 : Int)).toNat)))) 129 (k_u1 (k_u1 (k_u1 (x57.2) (((x57.1) 15 : Int)).toNat (32)) (((x57.1) 15 + 1 : Int)).toNat (48 + ((σ 124) (105 + 4 * p + (i57 : Int)).toNat))) (((x57.1) 15 + 1 + 1 : Int)).toNat (33)) = (k_up (k_up σ 123 (k_u1 (k_u1 (k_u1 (x57.1) 15 ((x57.1) 15 + 1)) 15 ((x57.1) 15 + 1 + 1)) 15 ((x57.1) 15 + 1 + 1 + 1))) 129 (k_u1 (k_u1 (k_u1 (x57.2) (((x57.1) 15 : Int)).toNat (32)) (((x57.1) 15 + 1 : Int)).toNat (48 + ((σ 124) (105 + 4 * p + (i57 : Int)).toNat))) (((x57.1) 15 + 1 + 1 : Int)).toNat (33))) from k_up_up))).symm ?_
              refine k_iinc (ls' := [(0, .ref 123), (1, .int (iI (p))), (2, .int (iI ((i57 : Int) + 1))), (3, .int (iI ((σ 124) (105 + 4 * p + (i57 : Int)).toNat)))]) dX8_writeTimetable_123 2 rfl (by decide) rfl rfl ?_
              refine k_goto (tgt := 57) dX8_writeTimetable_126 rfl ?_
              refine k_dropr (ls' := [(0, .ref 123), (1, .int (iI (p))), (2, .int (iI ((i57 : Int) + 1)))]) (ex := [(3, .int (iI ((σ 124) (105 + 4 * p + (i57 : Int)).toNat)))]) rfl ?_
              have y28 : (k_u1 (k_u1 (k_u1 (x57.1) 15 ((x57.1) 15 + 1)) 15 ((x57.1) 15 + 1 + 1)) 15 ((x57.1) 15 + 1 + 1 + 1)) 15 = (x57.1) 15 + 1 + 1 + 1 := rfl
              exact ih57 (((k_u1 (k_u1 (k_u1 (x57.1) 15 ((x57.1) 15 + 1)) 15 ((x57.1) 15 + 1 + 1)) 15 ((x57.1) 15 + 1 + 1 + 1)), (k_u1 (k_u1 (k_u1 (x57.2) (((x57.1) 15 : Int)).toNat (32)) (((x57.1) 15 + 1 : Int)).toNat (48 + ((σ 124) (105 + 4 * p + (i57 : Int)).toNat))) (((x57.1) 15 + 1 + 1 : Int)).toNat (33)))) (show (0 ≤ ((k_u1 (k_u1 (k_u1 (x57.1) 15 ((x57.1) 15 + 1)) 15 ((x57.1) 15 + 1 + 1)) 15 ((x57.1) 15 + 1 + 1 + 1))) 15 ∧ ((k_u1 (k_u1 (k_u1 (x57.1) 15 ((x57.1) 15 + 1)) 15 ((x57.1) 15 + 1 + 1)) 15 ((x57.1) 15 + 1 + 1 + 1))) 15 ≤ 3 + 3 * ((i57 + 1 : Nat) : Int)) ∧ ((k_F0 (k_u1 (k_u1 (k_u1 (x57.1) 15 ((x57.1) 15 + 1)) 15 ((x57.1) 15 + 1 + 1)) 15 ((x57.1) 15 + 1 + 1 + 1)))) ∧ (k_rg 0 127 (k_u1 (k_u1 (k_u1 (x57.2) (((x57.1) 15 : Int)).toNat (32)) (((x57.1) 15 + 1 : Int)).toNat (48 + ((σ 124) (105 + 4 * p + (i57 : Int)).toNat))) (((x57.1) 15 + 1 + 1 : Int)).toNat (33))) from ⟨(by omega), (show k_F0 (k_u1 (k_u1 (k_u1 (x57.1) 15 ((x57.1) 15 + 1)) 15 ((x57.1) 15 + 1 + 1)) 15 ((x57.1) 15 + 1 + 1 + 1)) from (k_F0_u (show k_F0 (k_u1 (k_u1 (x57.1) 15 ((x57.1) 15 + 1)) 15 ((x57.1) 15 + 1 + 1)) from (k_F0_u (show k_F0 (k_u1 (x57.1) 15 ((x57.1) 15 + 1)) from (k_F0_u hW57_123 (by omega))) (by omega))) (by omega))), (show k_rg 0 127 (k_u1 (k_u1 (k_u1 (x57.2) (((x57.1) 15 : Int)).toNat (32)) (((x57.1) 15 + 1 : Int)).toNat (48 + ((σ 124) (105 + 4 * p + (i57 : Int)).toNat))) (((x57.1) 15 + 1 + 1 : Int)).toNat (33)) from (k_rg_u (show k_rg 0 127 (k_u1 (k_u1 (x57.2) (((x57.1) 15 : Int)).toNat (32)) (((x57.1) 15 + 1 : Int)).toNat (48 + ((σ 124) (105 + 4 * p + (i57 : Int)).toNat))) from (k_rg_u (show k_rg 0 127 (k_u1 (x57.2) (((x57.1) 15 : Int)).toNat (32)) from (k_rg_u hW57_129 (by omega))) (by omega))) (by omega)))⟩)
        · refine k_ift (F := (fun t => (k_pP sh (R_writeTimetable)) ((r_writeTimetable_57 σ p) (k_it (b_writeTimetable_57 σ p) n57 (i57 + 1) t)))) h18 ?_
          refine k_bipush (v := 45) dX8_writeTimetable_86 (by decide) ?_
          refine k_goto (tgt := 96) dX8_writeTimetable_88 rfl ?_
          have q29 := k_nB (e := 45) (by omega)
          refine k_callVr (st := []) (as := [.int (iI (45))]) dX8_writeTimetable_96 oX8_writes w_2236 w_2238 w_79 rfl (by omega) rfl (Nat.le_of_ble_eq_true rfl) (by decide) (s_123 hsh) rfl (c8_writes (σ := (k_up (k_up σ 123 (k_u1 (x57.1) 15 ((x57.1) 15 + 1))) 129 (k_u1 (x57.2) (((x57.1) 15 : Int)).toNat (32)))) hsh (show 0 ≤ (x57.1) 15 + 1 ∧ (x57.1) 15 + 1 < 40 from by omega) (by omega)) ?_
          refine k_eqσ (σ' := (k_up (k_up σ 123 (k_u1 (k_u1 (x57.1) 15 ((x57.1) 15 + 1)) 15 ((x57.1) 15 + 1 + 1))) 129 (k_u1 (k_u1 (x57.2) (((x57.1) 15 : Int)).toNat (32)) (((x57.1) 15 + 1 : Int)).toNat (45)))) (((congrArg (fun s => k_up s 129 (k_u1 (k_u1 (x57.2) (((x57.1) 15 : Int)).toNat (32)) (((x57.1) 15 + 1 : Int)).toNat (45))) (show k_up (k_up (k_up σ 123 (k_u1 (x57.1) 15 ((x57.1) 15 + 1))) 129 (k_u1 (x57.2) (((x57.1) 15 : Int)).toNat (32))) 123 (k_u1 (k_u1 (x57.1) 15 ((x57.1) 15 + 1)) 15 ((x57.1) 15 + 1 + 1)) = (k_up (k_up σ 123 (k_u1 (k_u1 (x57.1) 15 ((x57.1) 15 + 1)) 15 ((x57.1) 15 + 1 + 1))) 129 (k_u1 (x57.2) (((x57.1) 15 : Int)).toNat (32))) from ((k_up_comm (by decide)).trans (congrArg (fun s => k_up s 129 _) k_up_up)))).trans (show k_up (k_up (k_up σ 123 (k_u1 (k_u1 (x57.1) 15 ((x57.1) 15 + 1)) 15 ((x57.1) 15 + 1 + 1))) 129 (k_u1 (x57.2) (((x57.1) 15 : Int)).toNat (32))) 129 (k_u1 (k_u1 (x57.2) (((x57.1) 15 : Int)).toNat (32)) (((x57.1) 15 + 1 : Int)).toNat (45)) = (k_up (k_up σ 123 (k_u1 (k_u1 (x57.1) 15 ((x57.1) 15 + 1)) 15 ((x57.1) 15 + 1 + 1))) 129 (k_u1 (k_u1 (x57.2) (((x57.1) 15 : Int)).toNat (32)) (((x57.1) 15 + 1 : Int)).toNat (45))) from k_up_up))).symm ?_
          refine k_iload_n dX8_writeTimetable_99 3 rfl rfl ?_
          refine k_iconst (v := (-1)) dX8_writeTimetable_100 rfl ?_
          refine k_icmp_eq (tgt := 123) dX8_writeTimetable_101 rfl ⟨by omega, by omega⟩ ⟨by decide, by decide⟩ (fun h31 => ?_) (fun h31 => ?_)
          · refine k_ift (F := (fun t => (k_pP sh (R_writeTimetable)) ((r_writeTimetable_57 σ p) (k_it (b_writeTimetable_57 σ p) n57 (i57 + 1) t)))) h31 ?_
            refine k_iinc (ls' := [(0, .ref 123), (1, .int (iI (p))), (2, .int (iI ((i57 : Int) + 1))), (3, .int (iI ((σ 124) (105 + 4 * p + (i57 : Int)).toNat)))]) dX8_writeTimetable_123 2 rfl (by decide) rfl rfl ?_
            refine k_goto (tgt := 57) dX8_writeTimetable_126 rfl ?_
            refine k_dropr (ls' := [(0, .ref 123), (1, .int (iI (p))), (2, .int (iI ((i57 : Int) + 1)))]) (ex := [(3, .int (iI ((σ 124) (105 + 4 * p + (i57 : Int)).toNat)))]) rfl ?_
            have y32 : (k_u1 (k_u1 (x57.1) 15 ((x57.1) 15 + 1)) 15 ((x57.1) 15 + 1 + 1)) 15 = (x57.1) 15 + 1 + 1 := rfl
            exact ih57 (((k_u1 (k_u1 (x57.1) 15 ((x57.1) 15 + 1)) 15 ((x57.1) 15 + 1 + 1)), (k_u1 (k_u1 (x57.2) (((x57.1) 15 : Int)).toNat (32)) (((x57.1) 15 + 1 : Int)).toNat (45)))) (show (0 ≤ ((k_u1 (k_u1 (x57.1) 15 ((x57.1) 15 + 1)) 15 ((x57.1) 15 + 1 + 1))) 15 ∧ ((k_u1 (k_u1 (x57.1) 15 ((x57.1) 15 + 1)) 15 ((x57.1) 15 + 1 + 1))) 15 ≤ 3 + 3 * ((i57 + 1 : Nat) : Int)) ∧ ((k_F0 (k_u1 (k_u1 (x57.1) 15 ((x57.1) 15 + 1)) 15 ((x57.1) 15 + 1 + 1)))) ∧ (k_rg 0 127 (k_u1 (k_u1 (x57.2) (((x57.1) 15 : Int)).toNat (32)) (((x57.1) 15 + 1 : Int)).toNat (45))) from ⟨(by omega), (show k_F0 (k_u1 (k_u1 (x57.1) 15 ((x57.1) 15 + 1)) 15 ((x57.1) 15 + 1 + 1)) from (k_F0_u (show k_F0 (k_u1 (x57.1) 15 ((x57.1) 15 + 1)) from (k_F0_u hW57_123 (by omega))) (by omega))), (show k_rg 0 127 (k_u1 (k_u1 (x57.2) (((x57.1) 15 : Int)).toNat (32)) (((x57.1) 15 + 1 : Int)).toNat (45)) from (k_rg_u (show k_rg 0 127 (k_u1 (x57.2) (((x57.1) 15 : Int)).toNat (32)) from (k_rg_u hW57_129 (by omega))) (by omega)))⟩)
          · refine k_iff (F := (fun t => (k_pP sh (R_writeTimetable)) ((r_writeTimetable_57 σ p) (k_it (b_writeTimetable_57 σ p) n57 (i57 + 1) t)))) h31 ?_
            refine k_iload_n dX8_writeTimetable_104 3 rfl rfl ?_
            refine k_aload_n dX8_writeTimetable_105 0 rfl rfl (by decide) ?_
            refine k_get (kf := 0) (v := .ref 124) dX8_writeTimetable_106 kcX8 w_1747 (by decide) (by decide) (s_123 hsh) rfl rfl ?_
            refine k_bipush (v := 93) dX8_writeTimetable_109 (by decide) ?_
            refine k_iload_n dX8_writeTimetable_111 1 rfl rfl ?_
            refine k_iadd dX8_writeTimetable_112 ?_
            refine k_iald dX8_writeTimetable_113 (by decide) (s_124 hsh) (by omega) (by omega) (by decide) ?_
            refine k_eqst (st' := [.int (iI ((σ 124) (93 + p).toNat)), .int (iI ((σ 124) (105 + 4 * p + (i57 : Int)).toNat))]) rfl ?_
            have q33 := k_Mo_res (hMA).2.1 (x := 93 + p) (by omega) (by omega)
            refine k_icmp_ne (tgt := 123) dX8_writeTimetable_114 rfl ⟨by omega, by omega⟩ ⟨by omega, by omega⟩ (fun h34 => ?_) (fun h34 => ?_)
            · refine k_iff (F := (fun t => (k_pP sh (R_writeTimetable)) ((r_writeTimetable_57 σ p) (k_it (b_writeTimetable_57 σ p) n57 (i57 + 1) t)))) h34 ?_
              refine k_iinc (ls' := [(0, .ref 123), (1, .int (iI (p))), (2, .int (iI ((i57 : Int) + 1))), (3, .int (iI ((σ 124) (105 + 4 * p + (i57 : Int)).toNat)))]) dX8_writeTimetable_123 2 rfl (by decide) rfl rfl ?_
              refine k_goto (tgt := 57) dX8_writeTimetable_126 rfl ?_
              refine k_dropr (ls' := [(0, .ref 123), (1, .int (iI (p))), (2, .int (iI ((i57 : Int) + 1)))]) (ex := [(3, .int (iI ((σ 124) (105 + 4 * p + (i57 : Int)).toNat)))]) rfl ?_
              have y35 : (k_u1 (k_u1 (x57.1) 15 ((x57.1) 15 + 1)) 15 ((x57.1) 15 + 1 + 1)) 15 = (x57.1) 15 + 1 + 1 := rfl
              exact ih57 (((k_u1 (k_u1 (x57.1) 15 ((x57.1) 15 + 1)) 15 ((x57.1) 15 + 1 + 1)), (k_u1 (k_u1 (x57.2) (((x57.1) 15 : Int)).toNat (32)) (((x57.1) 15 + 1 : Int)).toNat (45)))) (show (0 ≤ ((k_u1 (k_u1 (x57.1) 15 ((x57.1) 15 + 1)) 15 ((x57.1) 15 + 1 + 1))) 15 ∧ ((k_u1 (k_u1 (x57.1) 15 ((x57.1) 15 + 1)) 15 ((x57.1) 15 + 1 + 1))) 15 ≤ 3 + 3 * ((i57 + 1 : Nat) : Int)) ∧ ((k_F0 (k_u1 (k_u1 (x57.1) 15 ((x57.1) 15 + 1)) 15 ((x57.1) 15 + 1 + 1)))) ∧ (k_rg 0 127 (k_u1 (k_u1 (x57.2) (((x57.1) 15 : Int)).toNat (32)) (((x57.1) 15 + 1 : Int)).toNat (45))) from ⟨(by omega), (show k_F0 (k_u1 (k_u1 (x57.1) 15 ((x57.1) 15 + 1)) 15 ((x57.1) 15 + 1 + 1)) from (k_F0_u (show k_F0 (k_u1 (x57.1) 15 ((x57.1) 15 + 1)) from (k_F0_u hW57_123 (by omega))) (by omega))), (show k_rg 0 127 (k_u1 (k_u1 (x57.2) (((x57.1) 15 : Int)).toNat (32)) (((x57.1) 15 + 1 : Int)).toNat (45)) from (k_rg_u (show k_rg 0 127 (k_u1 (x57.2) (((x57.1) 15 : Int)).toNat (32)) from (k_rg_u hW57_129 (by omega))) (by omega)))⟩)
            · refine k_ift (F := (fun t => (k_pP sh (R_writeTimetable)) ((r_writeTimetable_57 σ p) (k_it (b_writeTimetable_57 σ p) n57 (i57 + 1) t)))) h34 ?_
              refine k_aload_n dX8_writeTimetable_117 0 rfl rfl (by decide) ?_
              refine k_bipush (v := 33) dX8_writeTimetable_118 (by decide) ?_
              have q36 := k_nB (e := 33) (by omega)
              refine k_callVr (st := []) (as := [.int (iI (33))]) dX8_writeTimetable_120 oX8_writes w_2236 w_2238 w_79 rfl (by omega) rfl (Nat.le_of_ble_eq_true rfl) (by decide) (s_123 hsh) rfl (c8_writes (σ := (k_up (k_up σ 123 (k_u1 (k_u1 (x57.1) 15 ((x57.1) 15 + 1)) 15 ((x57.1) 15 + 1 + 1))) 129 (k_u1 (k_u1 (x57.2) (((x57.1) 15 : Int)).toNat (32)) (((x57.1) 15 + 1 : Int)).toNat (45)))) hsh (show 0 ≤ (x57.1) 15 + 1 + 1 ∧ (x57.1) 15 + 1 + 1 < 40 from by omega) (by omega)) ?_
              refine k_eqσ (σ' := (k_up (k_up σ 123 (k_u1 (k_u1 (k_u1 (x57.1) 15 ((x57.1) 15 + 1)) 15 ((x57.1) 15 + 1 + 1)) 15 ((x57.1) 15 + 1 + 1 + 1))) 129 (k_u1 (k_u1 (k_u1 (x57.2) (((x57.1) 15 : Int)).toNat (32)) (((x57.1) 15 + 1 : Int)).toNat (45)) (((x57.1) 15 + 1 + 1 : Int)).toNat (33)))) (((congrArg (fun s => k_up s 129 (k_u1 (k_u1 (k_u1 (x57.2) (((x57.1) 15 : Int)).toNat (32)) (((x57.1) 15 + 1 : Int)).toNat (45)) (((x57.1) 15 + 1 + 1 : Int)).toNat (33))) (show k_up (k_up (k_up σ 123 (k_u1 (k_u1 (x57.1) 15 ((x57.1) 15 + 1)) 15 ((x57.1) 15 + 1 + 1))) 129 (k_u1 (k_u1 (x57.2) (((x57.1) 15 : Int)).toNat (32)) (((x57.1) 15 + 1 : Int)).toNat (45))) 123 (k_u1 (k_u1 (k_u1 (x57.1) 15 ((x57.1) 15 + 1)) 15 ((x57.1) 15 + 1 + 1)) 15 ((x57.1) 15 + 1 + 1 + 1)) = (k_up (k_up σ 123 (k_u1 (k_u1 (k_u1 (x57.1) 15 ((x57.1) 15 + 1)) 15 ((x57.1) 15 + 1 + 1)) 15 ((x57.1) 15 + 1 + 1 + 1))) 129 (k_u1 (k_u1 (x57.2) (((x57.1) 15 : Int)).toNat (32)) (((x57.1) 15 + 1 : Int)).toNat (45))) from ((k_up_comm (by decide)).trans (congrArg (fun s => k_up s 129 _) k_up_up)))).trans (show k_up (k_up (k_up σ 123 (k_u1 (k_u1 (k_u1 (x57.1) 15 ((x57.1) 15 + 1)) 15 ((x57.1) 15 + 1 + 1)) 15 ((x57.1) 15 + 1 + 1 + 1))) 129 (k_u1 (k_u1 (x57.2) (((x57.1) 15 : Int)).toNat (32)) (((x57.1) 15 + 1 : Int)).toNat (45))) 129 (k_u1 (k_u1 (k_u1 (x57.2) (((x57.1) 15 : Int)).toNat (32)) (((x57.1) 15 + 1 : Int)).toNat (45)) (((x57.1) 15 + 1 + 1 : Int)).toNat (33)) = (k_up (k_up σ 123 (k_u1 (k_u1 (k_u1 (x57.1) 15 ((x57.1) 15 + 1)) 15 ((x57.1) 15 + 1 + 1)) 15 ((x57.1) 15 + 1 + 1 + 1))) 129 (k_u1 (k_u1 (k_u1 (x57.2) (((x57.1) 15 : Int)).toNat (32)) (((x57.1) 15 + 1 : Int)).toNat (45)) (((x57.1) 15 + 1 + 1 : Int)).toNat (33))) from k_up_up))).symm ?_
              refine k_iinc (ls' := [(0, .ref 123), (1, .int (iI (p))), (2, .int (iI ((i57 : Int) + 1))), (3, .int (iI ((σ 124) (105 + 4 * p + (i57 : Int)).toNat)))]) dX8_writeTimetable_123 2 rfl (by decide) rfl rfl ?_
              refine k_goto (tgt := 57) dX8_writeTimetable_126 rfl ?_
              refine k_dropr (ls' := [(0, .ref 123), (1, .int (iI (p))), (2, .int (iI ((i57 : Int) + 1)))]) (ex := [(3, .int (iI ((σ 124) (105 + 4 * p + (i57 : Int)).toNat)))]) rfl ?_
              have y38 : (k_u1 (k_u1 (k_u1 (x57.1) 15 ((x57.1) 15 + 1)) 15 ((x57.1) 15 + 1 + 1)) 15 ((x57.1) 15 + 1 + 1 + 1)) 15 = (x57.1) 15 + 1 + 1 + 1 := rfl
              exact ih57 (((k_u1 (k_u1 (k_u1 (x57.1) 15 ((x57.1) 15 + 1)) 15 ((x57.1) 15 + 1 + 1)) 15 ((x57.1) 15 + 1 + 1 + 1)), (k_u1 (k_u1 (k_u1 (x57.2) (((x57.1) 15 : Int)).toNat (32)) (((x57.1) 15 + 1 : Int)).toNat (45)) (((x57.1) 15 + 1 + 1 : Int)).toNat (33)))) (show (0 ≤ ((k_u1 (k_u1 (k_u1 (x57.1) 15 ((x57.1) 15 + 1)) 15 ((x57.1) 15 + 1 + 1)) 15 ((x57.1) 15 + 1 + 1 + 1))) 15 ∧ ((k_u1 (k_u1 (k_u1 (x57.1) 15 ((x57.1) 15 + 1)) 15 ((x57.1) 15 + 1 + 1)) 15 ((x57.1) 15 + 1 + 1 + 1))) 15 ≤ 3 + 3 * ((i57 + 1 : Nat) : Int)) ∧ ((k_F0 (k_u1 (k_u1 (k_u1 (x57.1) 15 ((x57.1) 15 + 1)) 15 ((x57.1) 15 + 1 + 1)) 15 ((x57.1) 15 + 1 + 1 + 1)))) ∧ (k_rg 0 127 (k_u1 (k_u1 (k_u1 (x57.2) (((x57.1) 15 : Int)).toNat (32)) (((x57.1) 15 + 1 : Int)).toNat (45)) (((x57.1) 15 + 1 + 1 : Int)).toNat (33))) from ⟨(by omega), (show k_F0 (k_u1 (k_u1 (k_u1 (x57.1) 15 ((x57.1) 15 + 1)) 15 ((x57.1) 15 + 1 + 1)) 15 ((x57.1) 15 + 1 + 1 + 1)) from (k_F0_u (show k_F0 (k_u1 (k_u1 (x57.1) 15 ((x57.1) 15 + 1)) 15 ((x57.1) 15 + 1 + 1)) from (k_F0_u (show k_F0 (k_u1 (x57.1) 15 ((x57.1) 15 + 1)) from (k_F0_u hW57_123 (by omega))) (by omega))) (by omega))), (show k_rg 0 127 (k_u1 (k_u1 (k_u1 (x57.2) (((x57.1) 15 : Int)).toNat (32)) (((x57.1) 15 + 1 : Int)).toNat (45)) (((x57.1) 15 + 1 + 1 : Int)).toNat (33)) from (k_rg_u (show k_rg 0 127 (k_u1 (k_u1 (x57.2) (((x57.1) 15 : Int)).toNat (32)) (((x57.1) 15 + 1 : Int)).toNat (45)) from (k_rg_u (show k_rg 0 127 (k_u1 (x57.2) (((x57.1) 15 : Int)).toNat (32)) from (k_rg_u hW57_129 (by omega))) (by omega))) (by omega)))⟩)
    · refine k_iff (F := (k_pP sh (R_writeTimetable))) (Int.not_le.mpr h3) ?_
      refine k_aload_n dX8_writeTimetable_25 0 rfl rfl (by decide) ?_
      refine k_bipush (v := 48) dX8_writeTimetable_26 (by decide) ?_
      refine k_iload_n dX8_writeTimetable_28 1 rfl rfl ?_
      refine k_bipush (v := 10) dX8_writeTimetable_29 (by decide) ?_
      refine k_idiv (v := (iI ((p) / (10)))) dX8_writeTimetable_31 (by decide) (z_divI (by omega) (by omega) (by omega) (by omega)) ?_
      refine k_iadd dX8_writeTimetable_32 ?_
      refine k_i2c (v := (iI (48 + ((p) / (10))))) dX8_writeTimetable_33 (k_nB (by omega)).2.2.1 ?_
      have q39 := k_nB (e := 48 + ((p) / (10))) (by omega)
      refine k_callVr (st := []) (as := [.int (iI (48 + ((p) / (10))))]) dX8_writeTimetable_34 oX8_writes w_2236 w_2238 w_79 rfl (by omega) rfl (Nat.le_of_ble_eq_true rfl) (by decide) (s_123 hsh) rfl (c8_writes (σ := (k_up σ 123 (k_u1 (σ 123) 15 (0)))) hsh (show 0 ≤ 0 ∧ 0 < 40 from by omega) (by omega)) ?_
      refine k_eqσ (σ' := (k_up (k_up σ 123 (k_u1 (k_u1 (σ 123) 15 (0)) 15 (0 + 1))) 129 (k_u1 (σ 129) ((0 : Int)).toNat (48 + ((p) / (10)))))) (((congrArg (fun s => k_up s 129 (k_u1 (σ 129) ((0 : Int)).toNat (48 + ((p) / (10))))) (show k_up (k_up σ 123 (k_u1 (σ 123) 15 (0))) 123 (k_u1 (k_u1 (σ 123) 15 (0)) 15 (0 + 1)) = (k_up σ 123 (k_u1 (k_u1 (σ 123) 15 (0)) 15 (0 + 1))) from k_up_up)).trans (show k_up (k_up σ 123 (k_u1 (k_u1 (σ 123) 15 (0)) 15 (0 + 1))) 129 (k_u1 (σ 129) ((0 : Int)).toNat (48 + ((p) / (10)))) = (k_up (k_up σ 123 (k_u1 (k_u1 (σ 123) 15 (0)) 15 (0 + 1))) 129 (k_u1 (σ 129) ((0 : Int)).toNat (48 + ((p) / (10))))) from rfl))).symm ?_
      refine k_aload_n dX8_writeTimetable_37 0 rfl rfl (by decide) ?_
      refine k_bipush (v := 48) dX8_writeTimetable_38 (by decide) ?_
      refine k_iload_n dX8_writeTimetable_40 1 rfl rfl ?_
      refine k_bipush (v := 10) dX8_writeTimetable_41 (by decide) ?_
      refine k_irem (v := (iI ((p) % (10)))) dX8_writeTimetable_43 (z_ne0 (by omega) (by omega)) (z_remI (by omega) (by omega) (by omega) (by omega)) ?_
      refine k_iadd dX8_writeTimetable_44 ?_
      refine k_i2c (v := (iI (48 + ((p) % (10))))) dX8_writeTimetable_45 (k_nB (by omega)).2.2.1 ?_
      have q41 := k_nB (e := 48 + ((p) % (10))) (by omega)
      refine k_callVr (st := []) (as := [.int (iI (48 + ((p) % (10))))]) dX8_writeTimetable_46 oX8_writes w_2236 w_2238 w_79 rfl (by omega) rfl (Nat.le_of_ble_eq_true rfl) (by decide) (s_123 hsh) rfl (c8_writes (σ := (k_up (k_up σ 123 (k_u1 (k_u1 (σ 123) 15 (0)) 15 (0 + 1))) 129 (k_u1 (σ 129) ((0 : Int)).toNat (48 + ((p) / (10)))))) hsh (show 0 ≤ 0 + 1 ∧ 0 + 1 < 40 from by omega) (by omega)) ?_
      refine k_eqσ (σ' := (k_up (k_up σ 123 (k_u1 (k_u1 (k_u1 (σ 123) 15 (0)) 15 (0 + 1)) 15 (0 + 1 + 1))) 129 (k_u1 (k_u1 (σ 129) ((0 : Int)).toNat (48 + ((p) / (10)))) ((0 + 1 : Int)).toNat (48 + ((p) % (10)))))) (((congrArg (fun s => k_up s 129 (k_u1 (k_u1 (σ 129) ((0 : Int)).toNat (48 + ((p) / (10)))) ((0 + 1 : Int)).toNat (48 + ((p) % (10))))) (show k_up (k_up (k_up σ 123 (k_u1 (k_u1 (σ 123) 15 (0)) 15 (0 + 1))) 129 (k_u1 (σ 129) ((0 : Int)).toNat (48 + ((p) / (10))))) 123 (k_u1 (k_u1 (k_u1 (σ 123) 15 (0)) 15 (0 + 1)) 15 (0 + 1 + 1)) = (k_up (k_up σ 123 (k_u1 (k_u1 (k_u1 (σ 123) 15 (0)) 15 (0 + 1)) 15 (0 + 1 + 1))) 129 (k_u1 (σ 129) ((0 : Int)).toNat (48 + ((p) / (10))))) from ((k_up_comm (by decide)).trans (congrArg (fun s => k_up s 129 _) k_up_up)))).trans (show k_up (k_up (k_up σ 123 (k_u1 (k_u1 (k_u1 (σ 123) 15 (0)) 15 (0 + 1)) 15 (0 + 1 + 1))) 129 (k_u1 (σ 129) ((0 : Int)).toNat (48 + ((p) / (10))))) 129 (k_u1 (k_u1 (σ 129) ((0 : Int)).toNat (48 + ((p) / (10)))) ((0 + 1 : Int)).toNat (48 + ((p) % (10)))) = (k_up (k_up σ 123 (k_u1 (k_u1 (k_u1 (σ 123) 15 (0)) 15 (0 + 1)) 15 (0 + 1 + 1))) 129 (k_u1 (k_u1 (σ 129) ((0 : Int)).toNat (48 + ((p) / (10)))) ((0 + 1 : Int)).toNat (48 + ((p) % (10))))) from k_up_up))).symm ?_
      refine k_aload_n dX8_writeTimetable_49 0 rfl rfl (by decide) ?_
      refine k_bipush (v := 58) dX8_writeTimetable_50 (by decide) ?_
      have q43 := k_nB (e := 58) (by omega)
      refine k_callVr (st := []) (as := [.int (iI (58))]) dX8_writeTimetable_52 oX8_writes w_2236 w_2238 w_79 rfl (by omega) rfl (Nat.le_of_ble_eq_true rfl) (by decide) (s_123 hsh) rfl (c8_writes (σ := (k_up (k_up σ 123 (k_u1 (k_u1 (k_u1 (σ 123) 15 (0)) 15 (0 + 1)) 15 (0 + 1 + 1))) 129 (k_u1 (k_u1 (σ 129) ((0 : Int)).toNat (48 + ((p) / (10)))) ((0 + 1 : Int)).toNat (48 + ((p) % (10)))))) hsh (show 0 ≤ 0 + 1 + 1 ∧ 0 + 1 + 1 < 40 from by omega) (by omega)) ?_
      refine k_eqσ (σ' := (k_up (k_up σ 123 (k_u1 (k_u1 (k_u1 (k_u1 (σ 123) 15 (0)) 15 (0 + 1)) 15 (0 + 1 + 1)) 15 (0 + 1 + 1 + 1))) 129 (k_u1 (k_u1 (k_u1 (σ 129) ((0 : Int)).toNat (48 + ((p) / (10)))) ((0 + 1 : Int)).toNat (48 + ((p) % (10)))) ((0 + 1 + 1 : Int)).toNat (58)))) (((congrArg (fun s => k_up s 129 (k_u1 (k_u1 (k_u1 (σ 129) ((0 : Int)).toNat (48 + ((p) / (10)))) ((0 + 1 : Int)).toNat (48 + ((p) % (10)))) ((0 + 1 + 1 : Int)).toNat (58))) (show k_up (k_up (k_up σ 123 (k_u1 (k_u1 (k_u1 (σ 123) 15 (0)) 15 (0 + 1)) 15 (0 + 1 + 1))) 129 (k_u1 (k_u1 (σ 129) ((0 : Int)).toNat (48 + ((p) / (10)))) ((0 + 1 : Int)).toNat (48 + ((p) % (10))))) 123 (k_u1 (k_u1 (k_u1 (k_u1 (σ 123) 15 (0)) 15 (0 + 1)) 15 (0 + 1 + 1)) 15 (0 + 1 + 1 + 1)) = (k_up (k_up σ 123 (k_u1 (k_u1 (k_u1 (k_u1 (σ 123) 15 (0)) 15 (0 + 1)) 15 (0 + 1 + 1)) 15 (0 + 1 + 1 + 1))) 129 (k_u1 (k_u1 (σ 129) ((0 : Int)).toNat (48 + ((p) / (10)))) ((0 + 1 : Int)).toNat (48 + ((p) % (10))))) from ((k_up_comm (by decide)).trans (congrArg (fun s => k_up s 129 _) k_up_up)))).trans (show k_up (k_up (k_up σ 123 (k_u1 (k_u1 (k_u1 (k_u1 (σ 123) 15 (0)) 15 (0 + 1)) 15 (0 + 1 + 1)) 15 (0 + 1 + 1 + 1))) 129 (k_u1 (k_u1 (σ 129) ((0 : Int)).toNat (48 + ((p) / (10)))) ((0 + 1 : Int)).toNat (48 + ((p) % (10))))) 129 (k_u1 (k_u1 (k_u1 (σ 129) ((0 : Int)).toNat (48 + ((p) / (10)))) ((0 + 1 : Int)).toNat (48 + ((p) % (10)))) ((0 + 1 + 1 : Int)).toNat (58)) = (k_up (k_up σ 123 (k_u1 (k_u1 (k_u1 (k_u1 (σ 123) 15 (0)) 15 (0 + 1)) 15 (0 + 1 + 1)) 15 (0 + 1 + 1 + 1))) 129 (k_u1 (k_u1 (k_u1 (σ 129) ((0 : Int)).toNat (48 + ((p) / (10)))) ((0 + 1 : Int)).toNat (48 + ((p) % (10)))) ((0 + 1 + 1 : Int)).toNat (58))) from k_up_up))).symm ?_
      refine k_iconst (v := 0) dX8_writeTimetable_55 rfl ?_
      refine k_istore_n (ls' := [(0, .ref 123), (1, .int (iI (p))), (2, .int (iI (0)))]) dX8_writeTimetable_56 rfl (by decide) rfl rfl ?_
      refine k_loop (α := (Nat → Int) × (Nat → Int)) (P := fun (i57 : Nat) (x57 : (Nat → Int) × (Nat → Int)) Q => k_V E mX8_writeTimetable _ 57 [(0, .ref 123), (1, .int (iI (p))), (2, .int (iI ((i57 : Int))))] [] sh (k_up (k_up σ 123 (x57.1)) 129 (x57.2)) _ _ Q) (J := fun (i57 : Nat) (x57 : (Nat → Int) × (Nat → Int)) => (0 ≤ (x57.1) 15 ∧ (x57.1) 15 ≤ 3 + 3 * (i57 : Int)) ∧ ((k_F0 x57.1)) ∧ (k_rg 0 127 x57.2)) (((σ 124) 1).toNat) (b_writeTimetable_57_2 σ p) (((k_u1 (k_u1 (k_u1 (k_u1 (σ 123) 15 (0)) 15 (0 + 1)) 15 (0 + 1 + 1)) 15 (0 + 1 + 1 + 1)), (k_u1 (k_u1 (k_u1 (σ 129) ((0 : Int)).toNat (48 + ((p) / (10)))) ((0 + 1 : Int)).toNat (48 + ((p) % (10)))) ((0 + 1 + 1 : Int)).toNat (58)))) (F := fun t => (k_pP sh (R_writeTimetable)) ((r_writeTimetable_57_2 σ p) t)) (show (0 ≤ ((k_u1 (k_u1 (k_u1 (k_u1 (σ 123) 15 (0)) 15 (0 + 1)) 15 (0 + 1 + 1)) 15 (0 + 1 + 1 + 1))) 15 ∧ ((k_u1 (k_u1 (k_u1 (k_u1 (σ 123) 15 (0)) 15 (0 + 1)) 15 (0 + 1 + 1)) 15 (0 + 1 + 1 + 1))) 15 ≤ 3 + 3 * ((0 : Nat) : Int)) ∧ ((k_F0 (k_u1 (k_u1 (k_u1 (k_u1 (σ 123) 15 (0)) 15 (0 + 1)) 15 (0 + 1 + 1)) 15 (0 + 1 + 1 + 1)))) ∧ (k_rg 0 127 (k_u1 (k_u1 (k_u1 (σ 129) ((0 : Int)).toNat (48 + ((p) / (10)))) ((0 + 1 : Int)).toNat (48 + ((p) % (10)))) ((0 + 1 + 1 : Int)).toNat (58))) from ⟨(show 0 ≤ 0 + 1 + 1 + 1 ∧ 0 + 1 + 1 + 1 ≤ 3 + 3 * ((0 : Nat) : Int) from by omega), (show k_F0 (k_u1 (k_u1 (k_u1 (k_u1 (σ 123) 15 (0)) 15 (0 + 1)) 15 (0 + 1 + 1)) 15 (0 + 1 + 1 + 1)) from (k_F0_u (show k_F0 (k_u1 (k_u1 (k_u1 (σ 123) 15 (0)) 15 (0 + 1)) 15 (0 + 1 + 1)) from (k_F0_u (show k_F0 (k_u1 (k_u1 (σ 123) 15 (0)) 15 (0 + 1)) from (k_F0_u (show k_F0 (k_u1 (σ 123) 15 (0)) from (k_F0_u (hMA).1 (by omega))) (by omega))) (by omega))) (by omega))), (show k_rg 0 127 (k_u1 (k_u1 (k_u1 (σ 129) ((0 : Int)).toNat (48 + ((p) / (10)))) ((0 + 1 : Int)).toNat (48 + ((p) % (10)))) ((0 + 1 + 1 : Int)).toNat (58)) from (k_rg_u (show k_rg 0 127 (k_u1 (k_u1 (σ 129) ((0 : Int)).toNat (48 + ((p) / (10)))) ((0 + 1 : Int)).toNat (48 + ((p) % (10)))) from (k_rg_u (show k_rg 0 127 (k_u1 (σ 129) ((0 : Int)).toNat (48 + ((p) / (10)))) from (k_rg_u (hMA).2.2.1 (by omega))) (by omega))) (by omega)))⟩) ?_ ?_
      · intro x57 hJ57
        have hJ57 : (0 ≤ (x57.1) 15 ∧ (x57.1) 15 ≤ 3 + 3 * ((((σ 124) 1).toNat : Nat) : Int)) ∧ ((k_F0 x57.1)) ∧ (k_rg 0 127 x57.2) := hJ57
        obtain ⟨hU57, hW57_123, hW57_129⟩ := id hJ57
        obtain ⟨⟨f46_0, g46_0⟩, ⟨f46_1, g46_1⟩, ⟨f46_2, g46_2⟩, ⟨f46_3, g46_3⟩, ⟨f46_4, g46_4⟩, ⟨f46_5, g46_5⟩, ⟨f46_6, g46_6⟩, ⟨f46_7, g46_7⟩, ⟨f46_8, g46_8⟩, ⟨f46_9, g46_9⟩, ⟨f46_10, g46_10⟩, ⟨f46_11, g46_11⟩, ⟨f46_12, g46_12⟩, ⟨f46_13, g46_13⟩⟩ := id hW57_123
        show k_V E mX8_writeTimetable _ 57 [(0, .ref 123), (1, .int (iI (p))), (2, .int (iI (((((σ 124) 1).toNat : Nat) : Int))))] [] sh (k_up (k_up σ 123 (x57.1)) 129 (x57.2)) _ _ ((k_pP sh (R_writeTimetable)) ((r_writeTimetable_57_2 σ p) x57))
        unfold r_writeTimetable_57_2
        refine k_iload_n dX8_writeTimetable_57 2 rfl rfl ?_
        refine k_aload_n dX8_writeTimetable_58 0 rfl rfl (by decide) ?_
        refine k_get (kf := 0) (v := .ref 124) dX8_writeTimetable_59 kcX8 w_1747 (by decide) (by decide) (s_123 hsh) rfl rfl ?_
        refine k_iconst (v := 1) dX8_writeTimetable_62 rfl ?_
        refine k_iald dX8_writeTimetable_63 (by decide) (s_124 hsh) (by omega) (by omega) (by decide) ?_
        refine k_eqst (st' := [.int (iI ((σ 124) 1)), .int (iI (((((σ 124) 1).toNat : Nat) : Int)))]) rfl ?_
        refine k_icmp_ge (tgt := 129) dX8_writeTimetable_64 rfl ⟨by omega, by omega⟩ ⟨by omega, by omega⟩ (fun h47 => ?_) (fun h47 => absurd h47 (by omega))
        refine k_aload_n dX8_writeTimetable_129 0 rfl rfl (by decide) ?_
        refine k_aload_n dX8_writeTimetable_130 0 rfl rfl (by decide) ?_
        refine k_get (kf := 15) (v := .int (iI ((x57.1) 15))) dX8_writeTimetable_131 kcX8 w_1762 (by decide) (by decide) (s_123 hsh) rfl rfl ?_
        refine k_callVr (st := []) (as := [.int (iI ((x57.1) 15))]) dX8_writeTimetable_134 oX8_tells w_1854 w_1856 w_32 rfl (by omega) rfl (Nat.le_of_ble_eq_true rfl) (by decide) (s_123 hsh) rfl (c8_tells hsh) ?_
        refine k_eqσ (σ' := (k_up (k_up σ 123 (k_u1 (x57.1) 7 (0))) 129 (x57.2))) ((show k_up (k_up (k_up σ 123 (x57.1)) 129 (x57.2)) 123 (k_u1 (x57.1) 7 (0)) = (k_up (k_up σ 123 (k_u1 (x57.1) 7 (0))) 129 (x57.2)) from ((k_up_comm (by decide)).trans (congrArg (fun s => k_up s 129 _) k_up_up)))).symm ?_
        exact k_retiP dX8_writeTimetable_137 rfl rfl rfl (show (-1 ≤ (x57.1) 15 ∧ (x57.1) 15 ≤ 1000) ∧ k_MA (k_up (k_up σ 123 (k_u1 (x57.1) 7 (0))) 129 (x57.2)) from ⟨by omega, ⟨(show k_F0 (k_u1 (x57.1) 7 (0)) from (k_F0_u hW57_123 (by omega))), (hMA).2.1, hW57_129, (hMA).2.2.2.1, (hMA).2.2.2.2.1, (hMA).2.2.2.2.2.1, (hMA).2.2.2.2.2.2.1, (hMA).2.2.2.2.2.2.2.1, (hMA).2.2.2.2.2.2.2.2.1, (hMA).2.2.2.2.2.2.2.2.2.1, (hMA).2.2.2.2.2.2.2.2.2.2.1, (hMA).2.2.2.2.2.2.2.2.2.2.2.1, (hMA).2.2.2.2.2.2.2.2.2.2.2.2⟩⟩)
      · intro n57 i57 x57 hi57 hJ57 ih57
        have hJ57 : (0 ≤ (x57.1) 15 ∧ (x57.1) 15 ≤ 3 + 3 * (i57 : Int)) ∧ ((k_F0 x57.1)) ∧ (k_rg 0 127 x57.2) := hJ57
        obtain ⟨hU57, hW57_123, hW57_129⟩ := id hJ57
        obtain ⟨⟨f49_0, g49_0⟩, ⟨f49_1, g49_1⟩, ⟨f49_2, g49_2⟩, ⟨f49_3, g49_3⟩, ⟨f49_4, g49_4⟩, ⟨f49_5, g49_5⟩, ⟨f49_6, g49_6⟩, ⟨f49_7, g49_7⟩, ⟨f49_8, g49_8⟩, ⟨f49_9, g49_9⟩, ⟨f49_10, g49_10⟩, ⟨f49_11, g49_11⟩, ⟨f49_12, g49_12⟩, ⟨f49_13, g49_13⟩⟩ := id hW57_123
        show k_V E mX8_writeTimetable _ 57 [(0, .ref 123), (1, .int (iI (p))), (2, .int (iI ((i57 : Int))))] [] sh (k_up (k_up σ 123 (x57.1)) 129 (x57.2)) _ _ ((fun t => (k_pP sh (R_writeTimetable)) ((r_writeTimetable_57_2 σ p) (k_it (b_writeTimetable_57_2 σ p) n57 (i57 + 1) t))) ((b_writeTimetable_57_2 σ p) i57 x57))
        unfold b_writeTimetable_57_2
        refine k_iload_n dX8_writeTimetable_57 2 rfl rfl ?_
        refine k_aload_n dX8_writeTimetable_58 0 rfl rfl (by decide) ?_
        refine k_get (kf := 0) (v := .ref 124) dX8_writeTimetable_59 kcX8 w_1747 (by decide) (by decide) (s_123 hsh) rfl rfl ?_
        refine k_iconst (v := 1) dX8_writeTimetable_62 rfl ?_
        refine k_iald dX8_writeTimetable_63 (by decide) (s_124 hsh) (by omega) (by omega) (by decide) ?_
        refine k_eqst (st' := [.int (iI ((σ 124) 1)), .int (iI ((i57 : Int)))]) rfl ?_
        refine k_icmp_ge (tgt := 129) dX8_writeTimetable_64 rfl ⟨by omega, by omega⟩ ⟨by omega, by omega⟩ (fun h50 => absurd h50 (by omega)) (fun h50 => ?_)
        refine k_aload_n dX8_writeTimetable_67 0 rfl rfl (by decide) ?_
        refine k_iload_n dX8_writeTimetable_68 1 rfl rfl ?_
        refine k_iload_n dX8_writeTimetable_69 2 rfl rfl ?_
        refine k_callVr (st := []) (as := [.int (iI (p)), .int (iI ((i57 : Int)))]) dX8_writeTimetable_70 oX8_subjectOf w_1908 w_1910 w_40 rfl (by omega) rfl (Nat.le_of_ble_eq_true rfl) (by decide) (s_123 hsh) rfl (c8_subjectOf (σ := (k_up (k_up σ 123 (x57.1)) 129 (x57.2))) hsh (hMA).2.1 (by omega) (by omega)) ?_
        refine k_eqst (st' := [.int (iI ((σ 124) (105 + 4 * p + (i57 : Int)).toNat))]) rfl ?_
        have q51 := k_Mo_tab (hMA).2.1 (x := 105 + 4 * p + (i57 : Int)) (by omega) (by omega)
        refine k_istore_n (ls' := [(0, .ref 123), (1, .int (iI (p))), (2, .int (iI ((i57 : Int)))), (3, .int (iI ((σ 124) (105 + 4 * p + (i57 : Int)).toNat)))]) dX8_writeTimetable_73 rfl (by decide) rfl rfl ?_
        refine k_aload_n dX8_writeTimetable_74 0 rfl rfl (by decide) ?_
        refine k_bipush (v := 32) dX8_writeTimetable_75 (by decide) ?_
        have q53 := k_nB (e := 32) (by omega)
        refine k_callVr (st := []) (as := [.int (iI (32))]) dX8_writeTimetable_77 oX8_writes w_2236 w_2238 w_79 rfl (by omega) rfl (Nat.le_of_ble_eq_true rfl) (by decide) (s_123 hsh) rfl (c8_writes (σ := (k_up (k_up σ 123 (x57.1)) 129 (x57.2))) hsh (show 0 ≤ (x57.1) 15 ∧ (x57.1) 15 < 40 from by omega) (by omega)) ?_
        refine k_eqσ (σ' := (k_up (k_up σ 123 (k_u1 (x57.1) 15 ((x57.1) 15 + 1))) 129 (k_u1 (x57.2) (((x57.1) 15 : Int)).toNat (32)))) (((congrArg (fun s => k_up s 129 (k_u1 (x57.2) (((x57.1) 15 : Int)).toNat (32))) (show k_up (k_up (k_up σ 123 (x57.1)) 129 (x57.2)) 123 (k_u1 (x57.1) 15 ((x57.1) 15 + 1)) = (k_up (k_up σ 123 (k_u1 (x57.1) 15 ((x57.1) 15 + 1))) 129 (x57.2)) from ((k_up_comm (by decide)).trans (congrArg (fun s => k_up s 129 _) k_up_up)))).trans (show k_up (k_up (k_up σ 123 (k_u1 (x57.1) 15 ((x57.1) 15 + 1))) 129 (x57.2)) 129 (k_u1 (x57.2) (((x57.1) 15 : Int)).toNat (32)) = (k_up (k_up σ 123 (k_u1 (x57.1) 15 ((x57.1) 15 + 1))) 129 (k_u1 (x57.2) (((x57.1) 15 : Int)).toNat (32))) from k_up_up))).symm ?_
        refine k_aload_n dX8_writeTimetable_80 0 rfl rfl (by decide) ?_
        refine k_iload_n dX8_writeTimetable_81 3 rfl rfl ?_
        refine k_iconst (v := (-1)) dX8_writeTimetable_82 rfl ?_
        refine k_icmp_ne (tgt := 91) dX8_writeTimetable_83 rfl ⟨by omega, by omega⟩ ⟨by decide, by decide⟩ (fun h55 => ?_) (fun h55 => ?_)
        · refine k_iff (F := (fun t => (k_pP sh (R_writeTimetable)) ((r_writeTimetable_57_2 σ p) (k_it (b_writeTimetable_57_2 σ p) n57 (i57 + 1) t)))) h55 ?_
          refine k_bipush (v := 48) dX8_writeTimetable_91 (by decide) ?_
          refine k_iload_n dX8_writeTimetable_93 3 rfl rfl ?_
          refine k_iadd dX8_writeTimetable_94 ?_
          refine k_i2c (v := (iI (48 + ((σ 124) (105 + 4 * p + (i57 : Int)).toNat)))) dX8_writeTimetable_95 (k_nB (by omega)).2.2.1 ?_
          have q56 := k_nB (e := 48 + ((σ 124) (105 + 4 * p + (i57 : Int)).toNat)) (by omega)
          refine k_callVr (st := []) (as := [.int (iI (48 + ((σ 124) (105 + 4 * p + (i57 : Int)).toNat)))]) dX8_writeTimetable_96 oX8_writes w_2236 w_2238 w_79 rfl (by omega) rfl (Nat.le_of_ble_eq_true rfl) (by decide) (s_123 hsh) rfl (c8_writes (σ := (k_up (k_up σ 123 (k_u1 (x57.1) 15 ((x57.1) 15 + 1))) 129 (k_u1 (x57.2) (((x57.1) 15 : Int)).toNat (32)))) hsh (show 0 ≤ (x57.1) 15 + 1 ∧ (x57.1) 15 + 1 < 40 from by omega) (by omega)) ?_
          refine k_eqσ (σ' := (k_up (k_up σ 123 (k_u1 (k_u1 (x57.1) 15 ((x57.1) 15 + 1)) 15 ((x57.1) 15 + 1 + 1))) 129 (k_u1 (k_u1 (x57.2) (((x57.1) 15 : Int)).toNat (32)) (((x57.1) 15 + 1 : Int)).toNat (48 + ((σ 124) (105 + 4 * p + (i57 : Int)).toNat))))) (((congrArg (fun s => k_up s 129 (k_u1 (k_u1 (x57.2) (((x57.1) 15 : Int)).toNat (32)) (((x57.1) 15 + 1 : Int)).toNat (48 + ((σ 124) (105 + 4 * p + (i57 : Int)).toNat)))) (show k_up (k_up (k_up σ 123 (k_u1 (x57.1) 15 ((x57.1) 15 + 1))) 129 (k_u1 (x57.2) (((x57.1) 15 : Int)).toNat (32))) 123 (k_u1 (k_u1 (x57.1) 15 ((x57.1) 15 + 1)) 15 ((x57.1) 15 + 1 + 1)) = (k_up (k_up σ 123 (k_u1 (k_u1 (x57.1) 15 ((x57.1) 15 + 1)) 15 ((x57.1) 15 + 1 + 1))) 129 (k_u1 (x57.2) (((x57.1) 15 : Int)).toNat (32))) from ((k_up_comm (by decide)).trans (congrArg (fun s => k_up s 129 _) k_up_up)))).trans (show k_up (k_up (k_up σ 123 (k_u1 (k_u1 (x57.1) 15 ((x57.1) 15 + 1)) 15 ((x57.1) 15 + 1 + 1))) 129 (k_u1 (x57.2) (((x57.1) 15 : Int)).toNat (32))) 129 (k_u1 (k_u1 (x57.2) (((x57.1) 15 : Int)).toNat (32)) (((x57.1) 15 + 1 : Int)).toNat (48 + ((σ 124) (105 + 4 * p + (i57 : Int)).toNat))) = (k_up (k_up σ 123 (k_u1 (k_u1 (x57.1) 15 ((x57.1) 15 + 1)) 15 ((x57.1) 15 + 1 + 1))) 129 (k_u1 (k_u1 (x57.2) (((x57.1) 15 : Int)).toNat (32)) (((x57.1) 15 + 1 : Int)).toNat (48 + ((σ 124) (105 + 4 * p + (i57 : Int)).toNat)))) from k_up_up))).symm ?_
          refine k_iload_n dX8_writeTimetable_99 3 rfl rfl ?_
          refine k_iconst (v := (-1)) dX8_writeTimetable_100 rfl ?_
          refine k_icmp_eq (tgt := 123) dX8_writeTimetable_101 rfl ⟨by omega, by omega⟩ ⟨by decide, by decide⟩ (fun h58 => ?_) (fun h58 => ?_)
          · refine k_ift (F := (fun t => (k_pP sh (R_writeTimetable)) ((r_writeTimetable_57_2 σ p) (k_it (b_writeTimetable_57_2 σ p) n57 (i57 + 1) t)))) h58 ?_
            refine k_iinc (ls' := [(0, .ref 123), (1, .int (iI (p))), (2, .int (iI ((i57 : Int) + 1))), (3, .int (iI ((σ 124) (105 + 4 * p + (i57 : Int)).toNat)))]) dX8_writeTimetable_123 2 rfl (by decide) rfl rfl ?_
            refine k_goto (tgt := 57) dX8_writeTimetable_126 rfl ?_
            refine k_dropr (ls' := [(0, .ref 123), (1, .int (iI (p))), (2, .int (iI ((i57 : Int) + 1)))]) (ex := [(3, .int (iI ((σ 124) (105 + 4 * p + (i57 : Int)).toNat)))]) rfl ?_
            have y59 : (k_u1 (k_u1 (x57.1) 15 ((x57.1) 15 + 1)) 15 ((x57.1) 15 + 1 + 1)) 15 = (x57.1) 15 + 1 + 1 := rfl
            exact ih57 (((k_u1 (k_u1 (x57.1) 15 ((x57.1) 15 + 1)) 15 ((x57.1) 15 + 1 + 1)), (k_u1 (k_u1 (x57.2) (((x57.1) 15 : Int)).toNat (32)) (((x57.1) 15 + 1 : Int)).toNat (48 + ((σ 124) (105 + 4 * p + (i57 : Int)).toNat))))) (show (0 ≤ ((k_u1 (k_u1 (x57.1) 15 ((x57.1) 15 + 1)) 15 ((x57.1) 15 + 1 + 1))) 15 ∧ ((k_u1 (k_u1 (x57.1) 15 ((x57.1) 15 + 1)) 15 ((x57.1) 15 + 1 + 1))) 15 ≤ 3 + 3 * ((i57 + 1 : Nat) : Int)) ∧ ((k_F0 (k_u1 (k_u1 (x57.1) 15 ((x57.1) 15 + 1)) 15 ((x57.1) 15 + 1 + 1)))) ∧ (k_rg 0 127 (k_u1 (k_u1 (x57.2) (((x57.1) 15 : Int)).toNat (32)) (((x57.1) 15 + 1 : Int)).toNat (48 + ((σ 124) (105 + 4 * p + (i57 : Int)).toNat)))) from ⟨(by omega), (show k_F0 (k_u1 (k_u1 (x57.1) 15 ((x57.1) 15 + 1)) 15 ((x57.1) 15 + 1 + 1)) from (k_F0_u (show k_F0 (k_u1 (x57.1) 15 ((x57.1) 15 + 1)) from (k_F0_u hW57_123 (by omega))) (by omega))), (show k_rg 0 127 (k_u1 (k_u1 (x57.2) (((x57.1) 15 : Int)).toNat (32)) (((x57.1) 15 + 1 : Int)).toNat (48 + ((σ 124) (105 + 4 * p + (i57 : Int)).toNat))) from (k_rg_u (show k_rg 0 127 (k_u1 (x57.2) (((x57.1) 15 : Int)).toNat (32)) from (k_rg_u hW57_129 (by omega))) (by omega)))⟩)
          · refine k_iff (F := (fun t => (k_pP sh (R_writeTimetable)) ((r_writeTimetable_57_2 σ p) (k_it (b_writeTimetable_57_2 σ p) n57 (i57 + 1) t)))) h58 ?_
            refine k_iload_n dX8_writeTimetable_104 3 rfl rfl ?_
            refine k_aload_n dX8_writeTimetable_105 0 rfl rfl (by decide) ?_
            refine k_get (kf := 0) (v := .ref 124) dX8_writeTimetable_106 kcX8 w_1747 (by decide) (by decide) (s_123 hsh) rfl rfl ?_
            refine k_bipush (v := 93) dX8_writeTimetable_109 (by decide) ?_
            refine k_iload_n dX8_writeTimetable_111 1 rfl rfl ?_
            refine k_iadd dX8_writeTimetable_112 ?_
            refine k_iald dX8_writeTimetable_113 (by decide) (s_124 hsh) (by omega) (by omega) (by decide) ?_
            refine k_eqst (st' := [.int (iI ((σ 124) (93 + p).toNat)), .int (iI ((σ 124) (105 + 4 * p + (i57 : Int)).toNat))]) rfl ?_
            have q60 := k_Mo_res (hMA).2.1 (x := 93 + p) (by omega) (by omega)
            refine k_icmp_ne (tgt := 123) dX8_writeTimetable_114 rfl ⟨by omega, by omega⟩ ⟨by omega, by omega⟩ (fun h61 => ?_) (fun h61 => ?_)
            · refine k_iff (F := (fun t => (k_pP sh (R_writeTimetable)) ((r_writeTimetable_57_2 σ p) (k_it (b_writeTimetable_57_2 σ p) n57 (i57 + 1) t)))) h61 ?_
              refine k_iinc (ls' := [(0, .ref 123), (1, .int (iI (p))), (2, .int (iI ((i57 : Int) + 1))), (3, .int (iI ((σ 124) (105 + 4 * p + (i57 : Int)).toNat)))]) dX8_writeTimetable_123 2 rfl (by decide) rfl rfl ?_
              refine k_goto (tgt := 57) dX8_writeTimetable_126 rfl ?_
              refine k_dropr (ls' := [(0, .ref 123), (1, .int (iI (p))), (2, .int (iI ((i57 : Int) + 1)))]) (ex := [(3, .int (iI ((σ 124) (105 + 4 * p + (i57 : Int)).toNat)))]) rfl ?_
              have y62 : (k_u1 (k_u1 (x57.1) 15 ((x57.1) 15 + 1)) 15 ((x57.1) 15 + 1 + 1)) 15 = (x57.1) 15 + 1 + 1 := rfl
              exact ih57 (((k_u1 (k_u1 (x57.1) 15 ((x57.1) 15 + 1)) 15 ((x57.1) 15 + 1 + 1)), (k_u1 (k_u1 (x57.2) (((x57.1) 15 : Int)).toNat (32)) (((x57.1) 15 + 1 : Int)).toNat (48 + ((σ 124) (105 + 4 * p + (i57 : Int)).toNat))))) (show (0 ≤ ((k_u1 (k_u1 (x57.1) 15 ((x57.1) 15 + 1)) 15 ((x57.1) 15 + 1 + 1))) 15 ∧ ((k_u1 (k_u1 (x57.1) 15 ((x57.1) 15 + 1)) 15 ((x57.1) 15 + 1 + 1))) 15 ≤ 3 + 3 * ((i57 + 1 : Nat) : Int)) ∧ ((k_F0 (k_u1 (k_u1 (x57.1) 15 ((x57.1) 15 + 1)) 15 ((x57.1) 15 + 1 + 1)))) ∧ (k_rg 0 127 (k_u1 (k_u1 (x57.2) (((x57.1) 15 : Int)).toNat (32)) (((x57.1) 15 + 1 : Int)).toNat (48 + ((σ 124) (105 + 4 * p + (i57 : Int)).toNat)))) from ⟨(by omega), (show k_F0 (k_u1 (k_u1 (x57.1) 15 ((x57.1) 15 + 1)) 15 ((x57.1) 15 + 1 + 1)) from (k_F0_u (show k_F0 (k_u1 (x57.1) 15 ((x57.1) 15 + 1)) from (k_F0_u hW57_123 (by omega))) (by omega))), (show k_rg 0 127 (k_u1 (k_u1 (x57.2) (((x57.1) 15 : Int)).toNat (32)) (((x57.1) 15 + 1 : Int)).toNat (48 + ((σ 124) (105 + 4 * p + (i57 : Int)).toNat))) from (k_rg_u (show k_rg 0 127 (k_u1 (x57.2) (((x57.1) 15 : Int)).toNat (32)) from (k_rg_u hW57_129 (by omega))) (by omega)))⟩)
            · refine k_ift (F := (fun t => (k_pP sh (R_writeTimetable)) ((r_writeTimetable_57_2 σ p) (k_it (b_writeTimetable_57_2 σ p) n57 (i57 + 1) t)))) h61 ?_
              refine k_aload_n dX8_writeTimetable_117 0 rfl rfl (by decide) ?_
              refine k_bipush (v := 33) dX8_writeTimetable_118 (by decide) ?_
              have q63 := k_nB (e := 33) (by omega)
              refine k_callVr (st := []) (as := [.int (iI (33))]) dX8_writeTimetable_120 oX8_writes w_2236 w_2238 w_79 rfl (by omega) rfl (Nat.le_of_ble_eq_true rfl) (by decide) (s_123 hsh) rfl (c8_writes (σ := (k_up (k_up σ 123 (k_u1 (k_u1 (x57.1) 15 ((x57.1) 15 + 1)) 15 ((x57.1) 15 + 1 + 1))) 129 (k_u1 (k_u1 (x57.2) (((x57.1) 15 : Int)).toNat (32)) (((x57.1) 15 + 1 : Int)).toNat (48 + ((σ 124) (105 + 4 * p + (i57 : Int)).toNat))))) hsh (show 0 ≤ (x57.1) 15 + 1 + 1 ∧ (x57.1) 15 + 1 + 1 < 40 from by omega) (by omega)) ?_
              refine k_eqσ (σ' := (k_up (k_up σ 123 (k_u1 (k_u1 (k_u1 (x57.1) 15 ((x57.1) 15 + 1)) 15 ((x57.1) 15 + 1 + 1)) 15 ((x57.1) 15 + 1 + 1 + 1))) 129 (k_u1 (k_u1 (k_u1 (x57.2) (((x57.1) 15 : Int)).toNat (32)) (((x57.1) 15 + 1 : Int)).toNat (48 + ((σ 124) (105 + 4 * p + (i57 : Int)).toNat))) (((x57.1) 15 + 1 + 1 : Int)).toNat (33)))) (((congrArg (fun s => k_up s 129 (k_u1 (k_u1 (k_u1 (x57.2) (((x57.1) 15 : Int)).toNat (32)) (((x57.1) 15 + 1 : Int)).toNat (48 + ((σ 124) (105 + 4 * p + (i57 : Int)).toNat))) (((x57.1) 15 + 1 + 1 : Int)).toNat (33))) (show k_up (k_up (k_up σ 123 (k_u1 (k_u1 (x57.1) 15 ((x57.1) 15 + 1)) 15 ((x57.1) 15 + 1 + 1))) 129 (k_u1 (k_u1 (x57.2) (((x57.1) 15 : Int)).toNat (32)) (((x57.1) 15 + 1 : Int)).toNat (48 + ((σ 124) (105 + 4 * p + (i57 : Int)).toNat)))) 123 (k_u1 (k_u1 (k_u1 (x57.1) 15 ((x57.1) 15 + 1)) 15 ((x57.1) 15 + 1 + 1)) 15 ((x57.1) 15 + 1 + 1 + 1)) = (k_up (k_up σ 123 (k_u1 (k_u1 (k_u1 (x57.1) 15 ((x57.1) 15 + 1)) 15 ((x57.1) 15 + 1 + 1)) 15 ((x57.1) 15 + 1 + 1 + 1))) 129 (k_u1 (k_u1 (x57.2) (((x57.1) 15 : Int)).toNat (32)) (((x57.1) 15 + 1 : Int)).toNat (48 + ((σ 124) (105 + 4 * p + (i57 : Int)).toNat)))) from ((k_up_comm (by decide)).trans (congrArg (fun s => k_up s 129 _) k_up_up)))).trans (show k_up (k_up (k_up σ 123 (k_u1 (k_u1 (k_u1 (x57.1) 15 ((x57.1) 15 + 1)) 15 ((x57.1) 15 + 1 + 1)) 15 ((x57.1) 15 + 1 + 1 + 1))) 129 (k_u1 (k_u1 (x57.2) (((x57.1) 15 : Int)).toNat (32)) (((x57.1) 15 + 1 : Int)).toNat (48 + ((σ 124) (105 + 4 * p + (i57 : Int)).toNat)))) 129 (k_u1 (k_u1 (k_u1 (x57.2) (((x57.1) 15 : Int)).toNat (32)) (((x57.1) 15 + 1 : Int)).toNat (48 + ((σ 124) (105 + 4 * p + (i57 : Int)).toNat))) (((x57.1) 15 + 1 + 1 : Int)).toNat (33)) = (k_up (k_up σ 123 (k_u1 (k_u1 (k_u1 (x57.1) 15 ((x57.1) 15 + 1)) 15 ((x57.1) 15 + 1 + 1)) 15 ((x57.1) 15 + 1 + 1 + 1))) 129 (k_u1 (k_u1 (k_u1 (x57.2) (((x57.1) 15 : Int)).toNat (32)) (((x57.1) 15 + 1 : Int)).toNat (48 + ((σ 124) (105 + 4 * p + (i57 : Int)).toNat))) (((x57.1) 15 + 1 + 1 : Int)).toNat (33))) from k_up_up))).symm ?_
              refine k_iinc (ls' := [(0, .ref 123), (1, .int (iI (p))), (2, .int (iI ((i57 : Int) + 1))), (3, .int (iI ((σ 124) (105 + 4 * p + (i57 : Int)).toNat)))]) dX8_writeTimetable_123 2 rfl (by decide) rfl rfl ?_
              refine k_goto (tgt := 57) dX8_writeTimetable_126 rfl ?_
              refine k_dropr (ls' := [(0, .ref 123), (1, .int (iI (p))), (2, .int (iI ((i57 : Int) + 1)))]) (ex := [(3, .int (iI ((σ 124) (105 + 4 * p + (i57 : Int)).toNat)))]) rfl ?_
              have y65 : (k_u1 (k_u1 (k_u1 (x57.1) 15 ((x57.1) 15 + 1)) 15 ((x57.1) 15 + 1 + 1)) 15 ((x57.1) 15 + 1 + 1 + 1)) 15 = (x57.1) 15 + 1 + 1 + 1 := rfl
              exact ih57 (((k_u1 (k_u1 (k_u1 (x57.1) 15 ((x57.1) 15 + 1)) 15 ((x57.1) 15 + 1 + 1)) 15 ((x57.1) 15 + 1 + 1 + 1)), (k_u1 (k_u1 (k_u1 (x57.2) (((x57.1) 15 : Int)).toNat (32)) (((x57.1) 15 + 1 : Int)).toNat (48 + ((σ 124) (105 + 4 * p + (i57 : Int)).toNat))) (((x57.1) 15 + 1 + 1 : Int)).toNat (33)))) (show (0 ≤ ((k_u1 (k_u1 (k_u1 (x57.1) 15 ((x57.1) 15 + 1)) 15 ((x57.1) 15 + 1 + 1)) 15 ((x57.1) 15 + 1 + 1 + 1))) 15 ∧ ((k_u1 (k_u1 (k_u1 (x57.1) 15 ((x57.1) 15 + 1)) 15 ((x57.1) 15 + 1 + 1)) 15 ((x57.1) 15 + 1 + 1 + 1))) 15 ≤ 3 + 3 * ((i57 + 1 : Nat) : Int)) ∧ ((k_F0 (k_u1 (k_u1 (k_u1 (x57.1) 15 ((x57.1) 15 + 1)) 15 ((x57.1) 15 + 1 + 1)) 15 ((x57.1) 15 + 1 + 1 + 1)))) ∧ (k_rg 0 127 (k_u1 (k_u1 (k_u1 (x57.2) (((x57.1) 15 : Int)).toNat (32)) (((x57.1) 15 + 1 : Int)).toNat (48 + ((σ 124) (105 + 4 * p + (i57 : Int)).toNat))) (((x57.1) 15 + 1 + 1 : Int)).toNat (33))) from ⟨(by omega), (show k_F0 (k_u1 (k_u1 (k_u1 (x57.1) 15 ((x57.1) 15 + 1)) 15 ((x57.1) 15 + 1 + 1)) 15 ((x57.1) 15 + 1 + 1 + 1)) from (k_F0_u (show k_F0 (k_u1 (k_u1 (x57.1) 15 ((x57.1) 15 + 1)) 15 ((x57.1) 15 + 1 + 1)) from (k_F0_u (show k_F0 (k_u1 (x57.1) 15 ((x57.1) 15 + 1)) from (k_F0_u hW57_123 (by omega))) (by omega))) (by omega))), (show k_rg 0 127 (k_u1 (k_u1 (k_u1 (x57.2) (((x57.1) 15 : Int)).toNat (32)) (((x57.1) 15 + 1 : Int)).toNat (48 + ((σ 124) (105 + 4 * p + (i57 : Int)).toNat))) (((x57.1) 15 + 1 + 1 : Int)).toNat (33)) from (k_rg_u (show k_rg 0 127 (k_u1 (k_u1 (x57.2) (((x57.1) 15 : Int)).toNat (32)) (((x57.1) 15 + 1 : Int)).toNat (48 + ((σ 124) (105 + 4 * p + (i57 : Int)).toNat))) from (k_rg_u (show k_rg 0 127 (k_u1 (x57.2) (((x57.1) 15 : Int)).toNat (32)) from (k_rg_u hW57_129 (by omega))) (by omega))) (by omega)))⟩)
        · refine k_ift (F := (fun t => (k_pP sh (R_writeTimetable)) ((r_writeTimetable_57_2 σ p) (k_it (b_writeTimetable_57_2 σ p) n57 (i57 + 1) t)))) h55 ?_
          refine k_bipush (v := 45) dX8_writeTimetable_86 (by decide) ?_
          refine k_goto (tgt := 96) dX8_writeTimetable_88 rfl ?_
          have q66 := k_nB (e := 45) (by omega)
          refine k_callVr (st := []) (as := [.int (iI (45))]) dX8_writeTimetable_96 oX8_writes w_2236 w_2238 w_79 rfl (by omega) rfl (Nat.le_of_ble_eq_true rfl) (by decide) (s_123 hsh) rfl (c8_writes (σ := (k_up (k_up σ 123 (k_u1 (x57.1) 15 ((x57.1) 15 + 1))) 129 (k_u1 (x57.2) (((x57.1) 15 : Int)).toNat (32)))) hsh (show 0 ≤ (x57.1) 15 + 1 ∧ (x57.1) 15 + 1 < 40 from by omega) (by omega)) ?_
          refine k_eqσ (σ' := (k_up (k_up σ 123 (k_u1 (k_u1 (x57.1) 15 ((x57.1) 15 + 1)) 15 ((x57.1) 15 + 1 + 1))) 129 (k_u1 (k_u1 (x57.2) (((x57.1) 15 : Int)).toNat (32)) (((x57.1) 15 + 1 : Int)).toNat (45)))) (((congrArg (fun s => k_up s 129 (k_u1 (k_u1 (x57.2) (((x57.1) 15 : Int)).toNat (32)) (((x57.1) 15 + 1 : Int)).toNat (45))) (show k_up (k_up (k_up σ 123 (k_u1 (x57.1) 15 ((x57.1) 15 + 1))) 129 (k_u1 (x57.2) (((x57.1) 15 : Int)).toNat (32))) 123 (k_u1 (k_u1 (x57.1) 15 ((x57.1) 15 + 1)) 15 ((x57.1) 15 + 1 + 1)) = (k_up (k_up σ 123 (k_u1 (k_u1 (x57.1) 15 ((x57.1) 15 + 1)) 15 ((x57.1) 15 + 1 + 1))) 129 (k_u1 (x57.2) (((x57.1) 15 : Int)).toNat (32))) from ((k_up_comm (by decide)).trans (congrArg (fun s => k_up s 129 _) k_up_up)))).trans (show k_up (k_up (k_up σ 123 (k_u1 (k_u1 (x57.1) 15 ((x57.1) 15 + 1)) 15 ((x57.1) 15 + 1 + 1))) 129 (k_u1 (x57.2) (((x57.1) 15 : Int)).toNat (32))) 129 (k_u1 (k_u1 (x57.2) (((x57.1) 15 : Int)).toNat (32)) (((x57.1) 15 + 1 : Int)).toNat (45)) = (k_up (k_up σ 123 (k_u1 (k_u1 (x57.1) 15 ((x57.1) 15 + 1)) 15 ((x57.1) 15 + 1 + 1))) 129 (k_u1 (k_u1 (x57.2) (((x57.1) 15 : Int)).toNat (32)) (((x57.1) 15 + 1 : Int)).toNat (45))) from k_up_up))).symm ?_
          refine k_iload_n dX8_writeTimetable_99 3 rfl rfl ?_
          refine k_iconst (v := (-1)) dX8_writeTimetable_100 rfl ?_
          refine k_icmp_eq (tgt := 123) dX8_writeTimetable_101 rfl ⟨by omega, by omega⟩ ⟨by decide, by decide⟩ (fun h68 => ?_) (fun h68 => ?_)
          · refine k_ift (F := (fun t => (k_pP sh (R_writeTimetable)) ((r_writeTimetable_57_2 σ p) (k_it (b_writeTimetable_57_2 σ p) n57 (i57 + 1) t)))) h68 ?_
            refine k_iinc (ls' := [(0, .ref 123), (1, .int (iI (p))), (2, .int (iI ((i57 : Int) + 1))), (3, .int (iI ((σ 124) (105 + 4 * p + (i57 : Int)).toNat)))]) dX8_writeTimetable_123 2 rfl (by decide) rfl rfl ?_
            refine k_goto (tgt := 57) dX8_writeTimetable_126 rfl ?_
            refine k_dropr (ls' := [(0, .ref 123), (1, .int (iI (p))), (2, .int (iI ((i57 : Int) + 1)))]) (ex := [(3, .int (iI ((σ 124) (105 + 4 * p + (i57 : Int)).toNat)))]) rfl ?_
            have y69 : (k_u1 (k_u1 (x57.1) 15 ((x57.1) 15 + 1)) 15 ((x57.1) 15 + 1 + 1)) 15 = (x57.1) 15 + 1 + 1 := rfl
            exact ih57 (((k_u1 (k_u1 (x57.1) 15 ((x57.1) 15 + 1)) 15 ((x57.1) 15 + 1 + 1)), (k_u1 (k_u1 (x57.2) (((x57.1) 15 : Int)).toNat (32)) (((x57.1) 15 + 1 : Int)).toNat (45)))) (show (0 ≤ ((k_u1 (k_u1 (x57.1) 15 ((x57.1) 15 + 1)) 15 ((x57.1) 15 + 1 + 1))) 15 ∧ ((k_u1 (k_u1 (x57.1) 15 ((x57.1) 15 + 1)) 15 ((x57.1) 15 + 1 + 1))) 15 ≤ 3 + 3 * ((i57 + 1 : Nat) : Int)) ∧ ((k_F0 (k_u1 (k_u1 (x57.1) 15 ((x57.1) 15 + 1)) 15 ((x57.1) 15 + 1 + 1)))) ∧ (k_rg 0 127 (k_u1 (k_u1 (x57.2) (((x57.1) 15 : Int)).toNat (32)) (((x57.1) 15 + 1 : Int)).toNat (45))) from ⟨(by omega), (show k_F0 (k_u1 (k_u1 (x57.1) 15 ((x57.1) 15 + 1)) 15 ((x57.1) 15 + 1 + 1)) from (k_F0_u (show k_F0 (k_u1 (x57.1) 15 ((x57.1) 15 + 1)) from (k_F0_u hW57_123 (by omega))) (by omega))), (show k_rg 0 127 (k_u1 (k_u1 (x57.2) (((x57.1) 15 : Int)).toNat (32)) (((x57.1) 15 + 1 : Int)).toNat (45)) from (k_rg_u (show k_rg 0 127 (k_u1 (x57.2) (((x57.1) 15 : Int)).toNat (32)) from (k_rg_u hW57_129 (by omega))) (by omega)))⟩)
          · refine k_iff (F := (fun t => (k_pP sh (R_writeTimetable)) ((r_writeTimetable_57_2 σ p) (k_it (b_writeTimetable_57_2 σ p) n57 (i57 + 1) t)))) h68 ?_
            refine k_iload_n dX8_writeTimetable_104 3 rfl rfl ?_
            refine k_aload_n dX8_writeTimetable_105 0 rfl rfl (by decide) ?_
            refine k_get (kf := 0) (v := .ref 124) dX8_writeTimetable_106 kcX8 w_1747 (by decide) (by decide) (s_123 hsh) rfl rfl ?_
            refine k_bipush (v := 93) dX8_writeTimetable_109 (by decide) ?_
            refine k_iload_n dX8_writeTimetable_111 1 rfl rfl ?_
            refine k_iadd dX8_writeTimetable_112 ?_
            refine k_iald dX8_writeTimetable_113 (by decide) (s_124 hsh) (by omega) (by omega) (by decide) ?_
            refine k_eqst (st' := [.int (iI ((σ 124) (93 + p).toNat)), .int (iI ((σ 124) (105 + 4 * p + (i57 : Int)).toNat))]) rfl ?_
            have q70 := k_Mo_res (hMA).2.1 (x := 93 + p) (by omega) (by omega)
            refine k_icmp_ne (tgt := 123) dX8_writeTimetable_114 rfl ⟨by omega, by omega⟩ ⟨by omega, by omega⟩ (fun h71 => ?_) (fun h71 => ?_)
            · refine k_iff (F := (fun t => (k_pP sh (R_writeTimetable)) ((r_writeTimetable_57_2 σ p) (k_it (b_writeTimetable_57_2 σ p) n57 (i57 + 1) t)))) h71 ?_
              refine k_iinc (ls' := [(0, .ref 123), (1, .int (iI (p))), (2, .int (iI ((i57 : Int) + 1))), (3, .int (iI ((σ 124) (105 + 4 * p + (i57 : Int)).toNat)))]) dX8_writeTimetable_123 2 rfl (by decide) rfl rfl ?_
              refine k_goto (tgt := 57) dX8_writeTimetable_126 rfl ?_
              refine k_dropr (ls' := [(0, .ref 123), (1, .int (iI (p))), (2, .int (iI ((i57 : Int) + 1)))]) (ex := [(3, .int (iI ((σ 124) (105 + 4 * p + (i57 : Int)).toNat)))]) rfl ?_
              have y72 : (k_u1 (k_u1 (x57.1) 15 ((x57.1) 15 + 1)) 15 ((x57.1) 15 + 1 + 1)) 15 = (x57.1) 15 + 1 + 1 := rfl
              exact ih57 (((k_u1 (k_u1 (x57.1) 15 ((x57.1) 15 + 1)) 15 ((x57.1) 15 + 1 + 1)), (k_u1 (k_u1 (x57.2) (((x57.1) 15 : Int)).toNat (32)) (((x57.1) 15 + 1 : Int)).toNat (45)))) (show (0 ≤ ((k_u1 (k_u1 (x57.1) 15 ((x57.1) 15 + 1)) 15 ((x57.1) 15 + 1 + 1))) 15 ∧ ((k_u1 (k_u1 (x57.1) 15 ((x57.1) 15 + 1)) 15 ((x57.1) 15 + 1 + 1))) 15 ≤ 3 + 3 * ((i57 + 1 : Nat) : Int)) ∧ ((k_F0 (k_u1 (k_u1 (x57.1) 15 ((x57.1) 15 + 1)) 15 ((x57.1) 15 + 1 + 1)))) ∧ (k_rg 0 127 (k_u1 (k_u1 (x57.2) (((x57.1) 15 : Int)).toNat (32)) (((x57.1) 15 + 1 : Int)).toNat (45))) from ⟨(by omega), (show k_F0 (k_u1 (k_u1 (x57.1) 15 ((x57.1) 15 + 1)) 15 ((x57.1) 15 + 1 + 1)) from (k_F0_u (show k_F0 (k_u1 (x57.1) 15 ((x57.1) 15 + 1)) from (k_F0_u hW57_123 (by omega))) (by omega))), (show k_rg 0 127 (k_u1 (k_u1 (x57.2) (((x57.1) 15 : Int)).toNat (32)) (((x57.1) 15 + 1 : Int)).toNat (45)) from (k_rg_u (show k_rg 0 127 (k_u1 (x57.2) (((x57.1) 15 : Int)).toNat (32)) from (k_rg_u hW57_129 (by omega))) (by omega)))⟩)
            · refine k_ift (F := (fun t => (k_pP sh (R_writeTimetable)) ((r_writeTimetable_57_2 σ p) (k_it (b_writeTimetable_57_2 σ p) n57 (i57 + 1) t)))) h71 ?_
              refine k_aload_n dX8_writeTimetable_117 0 rfl rfl (by decide) ?_
              refine k_bipush (v := 33) dX8_writeTimetable_118 (by decide) ?_
              have q73 := k_nB (e := 33) (by omega)
              refine k_callVr (st := []) (as := [.int (iI (33))]) dX8_writeTimetable_120 oX8_writes w_2236 w_2238 w_79 rfl (by omega) rfl (Nat.le_of_ble_eq_true rfl) (by decide) (s_123 hsh) rfl (c8_writes (σ := (k_up (k_up σ 123 (k_u1 (k_u1 (x57.1) 15 ((x57.1) 15 + 1)) 15 ((x57.1) 15 + 1 + 1))) 129 (k_u1 (k_u1 (x57.2) (((x57.1) 15 : Int)).toNat (32)) (((x57.1) 15 + 1 : Int)).toNat (45)))) hsh (show 0 ≤ (x57.1) 15 + 1 + 1 ∧ (x57.1) 15 + 1 + 1 < 40 from by omega) (by omega)) ?_
              refine k_eqσ (σ' := (k_up (k_up σ 123 (k_u1 (k_u1 (k_u1 (x57.1) 15 ((x57.1) 15 + 1)) 15 ((x57.1) 15 + 1 + 1)) 15 ((x57.1) 15 + 1 + 1 + 1))) 129 (k_u1 (k_u1 (k_u1 (x57.2) (((x57.1) 15 : Int)).toNat (32)) (((x57.1) 15 + 1 : Int)).toNat (45)) (((x57.1) 15 + 1 + 1 : Int)).toNat (33)))) (((congrArg (fun s => k_up s 129 (k_u1 (k_u1 (k_u1 (x57.2) (((x57.1) 15 : Int)).toNat (32)) (((x57.1) 15 + 1 : Int)).toNat (45)) (((x57.1) 15 + 1 + 1 : Int)).toNat (33))) (show k_up (k_up (k_up σ 123 (k_u1 (k_u1 (x57.1) 15 ((x57.1) 15 + 1)) 15 ((x57.1) 15 + 1 + 1))) 129 (k_u1 (k_u1 (x57.2) (((x57.1) 15 : Int)).toNat (32)) (((x57.1) 15 + 1 : Int)).toNat (45))) 123 (k_u1 (k_u1 (k_u1 (x57.1) 15 ((x57.1) 15 + 1)) 15 ((x57.1) 15 + 1 + 1)) 15 ((x57.1) 15 + 1 + 1 + 1)) = (k_up (k_up σ 123 (k_u1 (k_u1 (k_u1 (x57.1) 15 ((x57.1) 15 + 1)) 15 ((x57.1) 15 + 1 + 1)) 15 ((x57.1) 15 + 1 + 1 + 1))) 129 (k_u1 (k_u1 (x57.2) (((x57.1) 15 : Int)).toNat (32)) (((x57.1) 15 + 1 : Int)).toNat (45))) from ((k_up_comm (by decide)).trans (congrArg (fun s => k_up s 129 _) k_up_up)))).trans (show k_up (k_up (k_up σ 123 (k_u1 (k_u1 (k_u1 (x57.1) 15 ((x57.1) 15 + 1)) 15 ((x57.1) 15 + 1 + 1)) 15 ((x57.1) 15 + 1 + 1 + 1))) 129 (k_u1 (k_u1 (x57.2) (((x57.1) 15 : Int)).toNat (32)) (((x57.1) 15 + 1 : Int)).toNat (45))) 129 (k_u1 (k_u1 (k_u1 (x57.2) (((x57.1) 15 : Int)).toNat (32)) (((x57.1) 15 + 1 : Int)).toNat (45)) (((x57.1) 15 + 1 + 1 : Int)).toNat (33)) = (k_up (k_up σ 123 (k_u1 (k_u1 (k_u1 (x57.1) 15 ((x57.1) 15 + 1)) 15 ((x57.1) 15 + 1 + 1)) 15 ((x57.1) 15 + 1 + 1 + 1))) 129 (k_u1 (k_u1 (k_u1 (x57.2) (((x57.1) 15 : Int)).toNat (32)) (((x57.1) 15 + 1 : Int)).toNat (45)) (((x57.1) 15 + 1 + 1 : Int)).toNat (33))) from k_up_up))).symm ?_
              refine k_iinc (ls' := [(0, .ref 123), (1, .int (iI (p))), (2, .int (iI ((i57 : Int) + 1))), (3, .int (iI ((σ 124) (105 + 4 * p + (i57 : Int)).toNat)))]) dX8_writeTimetable_123 2 rfl (by decide) rfl rfl ?_
              refine k_goto (tgt := 57) dX8_writeTimetable_126 rfl ?_
              refine k_dropr (ls' := [(0, .ref 123), (1, .int (iI (p))), (2, .int (iI ((i57 : Int) + 1)))]) (ex := [(3, .int (iI ((σ 124) (105 + 4 * p + (i57 : Int)).toNat)))]) rfl ?_
              have y75 : (k_u1 (k_u1 (k_u1 (x57.1) 15 ((x57.1) 15 + 1)) 15 ((x57.1) 15 + 1 + 1)) 15 ((x57.1) 15 + 1 + 1 + 1)) 15 = (x57.1) 15 + 1 + 1 + 1 := rfl
              exact ih57 (((k_u1 (k_u1 (k_u1 (x57.1) 15 ((x57.1) 15 + 1)) 15 ((x57.1) 15 + 1 + 1)) 15 ((x57.1) 15 + 1 + 1 + 1)), (k_u1 (k_u1 (k_u1 (x57.2) (((x57.1) 15 : Int)).toNat (32)) (((x57.1) 15 + 1 : Int)).toNat (45)) (((x57.1) 15 + 1 + 1 : Int)).toNat (33)))) (show (0 ≤ ((k_u1 (k_u1 (k_u1 (x57.1) 15 ((x57.1) 15 + 1)) 15 ((x57.1) 15 + 1 + 1)) 15 ((x57.1) 15 + 1 + 1 + 1))) 15 ∧ ((k_u1 (k_u1 (k_u1 (x57.1) 15 ((x57.1) 15 + 1)) 15 ((x57.1) 15 + 1 + 1)) 15 ((x57.1) 15 + 1 + 1 + 1))) 15 ≤ 3 + 3 * ((i57 + 1 : Nat) : Int)) ∧ ((k_F0 (k_u1 (k_u1 (k_u1 (x57.1) 15 ((x57.1) 15 + 1)) 15 ((x57.1) 15 + 1 + 1)) 15 ((x57.1) 15 + 1 + 1 + 1)))) ∧ (k_rg 0 127 (k_u1 (k_u1 (k_u1 (x57.2) (((x57.1) 15 : Int)).toNat (32)) (((x57.1) 15 + 1 : Int)).toNat (45)) (((x57.1) 15 + 1 + 1 : Int)).toNat (33))) from ⟨(by omega), (show k_F0 (k_u1 (k_u1 (k_u1 (x57.1) 15 ((x57.1) 15 + 1)) 15 ((x57.1) 15 + 1 + 1)) 15 ((x57.1) 15 + 1 + 1 + 1)) from (k_F0_u (show k_F0 (k_u1 (k_u1 (x57.1) 15 ((x57.1) 15 + 1)) 15 ((x57.1) 15 + 1 + 1)) from (k_F0_u (show k_F0 (k_u1 (x57.1) 15 ((x57.1) 15 + 1)) from (k_F0_u hW57_123 (by omega))) (by omega))) (by omega))), (show k_rg 0 127 (k_u1 (k_u1 (k_u1 (x57.2) (((x57.1) 15 : Int)).toNat (32)) (((x57.1) 15 + 1 : Int)).toNat (45)) (((x57.1) 15 + 1 + 1 : Int)).toNat (33)) from (k_rg_u (show k_rg 0 127 (k_u1 (k_u1 (x57.2) (((x57.1) 15 : Int)).toNat (32)) (((x57.1) 15 + 1 : Int)).toNat (45)) from (k_rg_u (show k_rg 0 127 (k_u1 (x57.2) (((x57.1) 15 : Int)).toNat (32)) from (k_rg_u hW57_129 (by omega))) (by omega))) (by omega)))⟩)
  · have h2 := zb_0.mp h2
    refine k_iff (F := (k_pP sh (R_writeTimetable))) h2 ?_
    refine k_aload_n dX8_writeTimetable_8 0 rfl rfl (by decide) ?_
    refine k_iconst (v := 1) dX8_writeTimetable_9 rfl ?_
    refine k_callVr (st := []) (as := [.int (iI (1))]) dX8_writeTimetable_10 oX8_fails w_1850 w_1852 w_31 rfl (by omega) rfl (Nat.le_of_ble_eq_true rfl) (by decide) (s_123 hsh) rfl (c8_fails hsh) ?_
    refine k_eqσ (σ' := (k_up σ 123 (k_u1 (σ 123) 7 (1)))) ((show k_up σ 123 (k_u1 (σ 123) 7 (1)) = (k_up σ 123 (k_u1 (σ 123) 7 (1))) from rfl)).symm ?_
    exact k_retiP dX8_writeTimetable_13 rfl rfl rfl (show (-1 ≤ (0 : Int) ∧ (0 : Int) ≤ 1000) ∧ k_MA (k_up σ 123 (k_u1 (σ 123) 7 (1))) from ⟨by omega, ⟨(show k_F0 (k_u1 (σ 123) 7 (1)) from (k_F0_u (hMA).1 (by omega))), (hMA).2.1, (hMA).2.2.1, (hMA).2.2.2.1, (hMA).2.2.2.2.1, (hMA).2.2.2.2.2.1, (hMA).2.2.2.2.2.2.1, (hMA).2.2.2.2.2.2.2.1, (hMA).2.2.2.2.2.2.2.2.1, (hMA).2.2.2.2.2.2.2.2.2.1, (hMA).2.2.2.2.2.2.2.2.2.2.1, (hMA).2.2.2.2.2.2.2.2.2.2.2.1, (hMA).2.2.2.2.2.2.2.2.2.2.2.2⟩⟩)
set_option maxHeartbeats 4000000 in
theorem c8_thrown (hsh : k_Main sh) : k_C E mX8_thrown 1 [.ref 123] sh σ 0 0 (k_ret (some (.int (iI (σ 123 7)))) sh σ) := by
  refine k_C_of (ls0 := [(0, .ref 123)]) rfl pnX8 (fun v hv => k_cat1 rfl hv) (Nat.le_of_ble_eq_true rfl) rfl ?_
  refine k_aload_n dX8_thrown_0 0 rfl rfl (by decide) ?_
  refine k_get (kf := 7) (v := .int (iI ((σ 123) 7))) dX8_thrown_1 kcX8 w_1754 (by decide) (by decide) (s_123 hsh) rfl rfl ?_
  exact k_reti dX8_thrown_4 rfl rfl (by first | rfl | omega)
abbrev R_lineAt (t : Int × (Nat → Nat → Int)) : Prop := (0 ≤ t.1 ∧ t.1 ≤ 127) ∧ k_MA t.2
def m_lineAt (σ : Nat → Nat → Int) (ix : Int) : Int × (Nat → Nat → Int) := if 0 ≤ ix ∧ ix ≤ (((σ 123) 15) - 1) then ((σ 129) (ix).toNat, (k_up σ 123 (k_u1 (σ 123) 7 (0)))) else (32, (k_up σ 123 (k_u1 (σ 123) 7 (1))))
set_option maxRecDepth 100000 in
set_option maxHeartbeats 4000000 in
theorem c8_lineAt (hsh : k_Main sh) (hMA : k_MA σ) {ix : Int} (h_ix : -2147483648 ≤ ix ∧ ix < 2147483648) : k_C E mX8_lineAt 3 [.ref 123, .int (iI (ix))] sh σ 0 0 ((k_pP sh (R_lineAt)) (m_lineAt σ ix)) := by
  refine k_C_of (ls0 := [(0, .ref 123), (1, .int (iI (ix)))]) rfl pnX8 (fun v hv => k_cat1 rfl hv) (Nat.le_of_ble_eq_true rfl) rfl ?_
  obtain ⟨⟨t0, t0b⟩, ⟨t1, t1b⟩, ⟨t2, t2b⟩, ⟨t3, t3b⟩, -⟩ := id hMA.2.1
  obtain ⟨⟨f6_0, g6_0⟩, ⟨f6_1, g6_1⟩, ⟨f6_2, g6_2⟩, ⟨f6_3, g6_3⟩, ⟨f6_4, g6_4⟩, ⟨f6_5, g6_5⟩, ⟨f6_6, g6_6⟩, ⟨f6_7, g6_7⟩, ⟨f6_8, g6_8⟩, ⟨f6_9, g6_9⟩, ⟨f6_10, g6_10⟩, ⟨f6_11, g6_11⟩, ⟨f6_12, g6_12⟩, ⟨f6_13, g6_13⟩⟩ := id hMA.1
  unfold m_lineAt
  refine k_aload_n dX8_lineAt_0 0 rfl rfl (by decide) ?_
  refine k_iload_n dX8_lineAt_1 1 rfl rfl ?_
  refine k_iconst (v := 0) dX8_lineAt_2 rfl ?_
  refine k_aload_n dX8_lineAt_3 0 rfl rfl (by decide) ?_
  refine k_get (kf := 15) (v := .int (iI ((σ 123) 15))) dX8_lineAt_4 kcX8 w_1762 (by decide) (by decide) (s_123 hsh) rfl rfl ?_
  refine k_iconst (v := 1) dX8_lineAt_7 rfl ?_
  refine k_isub dX8_lineAt_8 ?_
  refine k_callSr (st := [.ref 123]) (as := [.int (iI (ix)), .int (iI (0)), .int (iI (((σ 123) 15) - 1))]) dX8_lineAt_9 oX8_in w_1881 w_1882 rfl (by omega) rfl (Nat.le_of_ble_eq_true rfl) (c8_in ⟨by omega, by omega⟩ ⟨by omega, by omega⟩ ⟨by omega, by omega⟩) ?_
  refine k_if_eq (tgt := 19) dX8_lineAt_12 rfl (zb_kr _) (fun h2 => ?_) (fun h2 => ?_)
  · have h2 := zb_0.mp h2
    refine k_iff (F := (k_pP sh (R_lineAt))) h2 ?_
    refine k_iconst (v := 1) dX8_lineAt_19 rfl ?_
    refine k_putfW (kf := 7) dX8_lineAt_20 kcX8 w_1754 (by decide) (by decide) (s_123 hsh) rfl rfl rfl rfl ?_
    refine k_eqσ (σ' := (k_up σ 123 (k_u1 (σ 123) 7 (1)))) rfl ?_
    refine k_aload_n dX8_lineAt_23 0 rfl rfl (by decide) ?_
    refine k_get (kf := 7) (v := .int (iI (1))) dX8_lineAt_24 kcX8 w_1754 (by decide) (by decide) (s_123 hsh) rfl rfl ?_
    refine k_if_ne (tgt := 39) dX8_lineAt_27 rfl ⟨by decide, by decide⟩ (fun h3 => ?_) (fun h3 => absurd h3 (by decide))
    refine k_bipush (v := 32) dX8_lineAt_39 (by decide) ?_
    exact k_retcP dX8_lineAt_41 rfl (k_narC (by omega)) rfl rfl (show (0 ≤ (32 : Int) ∧ (32 : Int) ≤ 127) ∧ k_MA (k_up σ 123 (k_u1 (σ 123) 7 (1))) from ⟨by omega, ⟨(show k_F0 (k_u1 (σ 123) 7 (1)) from (k_F0_u (hMA).1 (by omega))), (hMA).2.1, (hMA).2.2.1, (hMA).2.2.2.1, (hMA).2.2.2.2.1, (hMA).2.2.2.2.2.1, (hMA).2.2.2.2.2.2.1, (hMA).2.2.2.2.2.2.2.1, (hMA).2.2.2.2.2.2.2.2.1, (hMA).2.2.2.2.2.2.2.2.2.1, (hMA).2.2.2.2.2.2.2.2.2.2.1, (hMA).2.2.2.2.2.2.2.2.2.2.2.1, (hMA).2.2.2.2.2.2.2.2.2.2.2.2⟩⟩)
  · have h2 := zb_n0.mp h2
    refine k_ift (F := (k_pP sh (R_lineAt))) h2 ?_
    refine k_iconst (v := 0) dX8_lineAt_15 rfl ?_
    refine k_goto (tgt := 20) dX8_lineAt_16 rfl ?_
    refine k_putfW (kf := 7) dX8_lineAt_20 kcX8 w_1754 (by decide) (by decide) (s_123 hsh) rfl rfl rfl rfl ?_
    refine k_eqσ (σ' := (k_up σ 123 (k_u1 (σ 123) 7 (0)))) rfl ?_
    refine k_aload_n dX8_lineAt_23 0 rfl rfl (by decide) ?_
    refine k_get (kf := 7) (v := .int (iI (0))) dX8_lineAt_24 kcX8 w_1754 (by decide) (by decide) (s_123 hsh) rfl rfl ?_
    refine k_if_ne (tgt := 39) dX8_lineAt_27 rfl ⟨by decide, by decide⟩ (fun h4 => absurd h4 (by decide)) (fun h4 => ?_)
    refine k_aload_n dX8_lineAt_30 0 rfl rfl (by decide) ?_
    refine k_get (kf := 13) (v := .ref 129) dX8_lineAt_31 kcX8 w_1760 (by decide) (by decide) (s_123 hsh) rfl rfl ?_
    refine k_iload_n dX8_lineAt_34 1 rfl rfl ?_
    refine k_cald dX8_lineAt_35 (by decide) (s_129 hsh) (by omega) (by omega) (by decide) ?_
    refine k_eqst (st' := [.int (iI ((σ 129) (ix).toNat))]) rfl ?_
    have q5 := (hMA).2.2.1 (ix).toNat
    refine k_goto (tgt := 41) dX8_lineAt_36 rfl ?_
    exact k_retcP dX8_lineAt_41 rfl (k_narC (by omega)) rfl rfl (show (0 ≤ (σ 129) (ix).toNat ∧ (σ 129) (ix).toNat ≤ 127) ∧ k_MA (k_up σ 123 (k_u1 (σ 123) 7 (0))) from ⟨by omega, ⟨(show k_F0 (k_u1 (σ 123) 7 (0)) from (k_F0_u (hMA).1 (by omega))), (hMA).2.1, (hMA).2.2.1, (hMA).2.2.2.1, (hMA).2.2.2.2.1, (hMA).2.2.2.2.2.1, (hMA).2.2.2.2.2.2.1, (hMA).2.2.2.2.2.2.2.1, (hMA).2.2.2.2.2.2.2.2.1, (hMA).2.2.2.2.2.2.2.2.2.1, (hMA).2.2.2.2.2.2.2.2.2.2.1, (hMA).2.2.2.2.2.2.2.2.2.2.2.1, (hMA).2.2.2.2.2.2.2.2.2.2.2.2⟩⟩)
abbrev R_type (t : Int × (Nat → Nat → Int)) : Prop := (-1 ≤ t.1 ∧ t.1 ≤ 1000) ∧ k_MA t.2
def m_type (σ : Nat → Nat → Int) (c : Int) : Int × (Nat → Nat → Int) := if 32 ≤ c ∧ c ≤ 126 then if ((σ 123) 16) = 60 then (0, (k_up σ 123 (k_u1 (σ 123) 7 (2)))) else (((σ 123) 16) + 1, (k_up (k_up σ 123 (k_u1 (k_u1 (σ 123) 16 (((σ 123) 16) + 1)) 7 (0))) 130 (k_u1 (σ 130) ((σ 123) 16).toNat (c)))) else (0, (k_up σ 123 (k_u1 (σ 123) 7 (1))))
set_option maxRecDepth 100000 in
set_option maxHeartbeats 4000000 in
theorem c8_type (hsh : k_Main sh) (hMA : k_MA σ) {c : Int} (h_c : 0 ≤ c ∧ c < 65536) : k_C E mX8_type 3 [.ref 123, .int (iI (c))] sh σ 0 0 ((k_pP sh (R_type)) (m_type σ c)) := by
  refine k_C_of (ls0 := [(0, .ref 123), (1, .int (iI (c)))]) rfl pnX8 (fun v hv => k_cat1 rfl hv) (Nat.le_of_ble_eq_true rfl) rfl ?_
  obtain ⟨⟨t0, t0b⟩, ⟨t1, t1b⟩, ⟨t2, t2b⟩, ⟨t3, t3b⟩, -⟩ := id hMA.2.1
  obtain ⟨⟨f7_0, g7_0⟩, ⟨f7_1, g7_1⟩, ⟨f7_2, g7_2⟩, ⟨f7_3, g7_3⟩, ⟨f7_4, g7_4⟩, ⟨f7_5, g7_5⟩, ⟨f7_6, g7_6⟩, ⟨f7_7, g7_7⟩, ⟨f7_8, g7_8⟩, ⟨f7_9, g7_9⟩, ⟨f7_10, g7_10⟩, ⟨f7_11, g7_11⟩, ⟨f7_12, g7_12⟩, ⟨f7_13, g7_13⟩⟩ := id hMA.1
  unfold m_type
  refine k_iload_n dX8_type_0 1 rfl rfl ?_
  refine k_bipush (v := 32) dX8_type_1 (by decide) ?_
  refine k_bipush (v := 126) dX8_type_3 (by decide) ?_
  refine k_callSr (st := []) (as := [.int (iI (c)), .int (iI (32)), .int (iI (126))]) dX8_type_5 oX8_in w_1881 w_1882 rfl (by omega) rfl (Nat.le_of_ble_eq_true rfl) (c8_in ⟨by omega, by omega⟩ ⟨by omega, by omega⟩ ⟨by omega, by omega⟩) ?_
  refine k_if_ne (tgt := 17) dX8_type_8 rfl (zb_kr _) (fun h2 => ?_) (fun h2 => ?_)
  · have h2 := zb_n0.mp h2
    refine k_ift (F := (k_pP sh (R_type))) h2 ?_
    refine k_aload_n dX8_type_17 0 rfl rfl (by decide) ?_
    refine k_get (kf := 16) (v := .int (iI ((σ 123) 16))) dX8_type_18 kcX8 w_1763 (by decide) (by decide) (s_123 hsh) rfl rfl ?_
    refine k_bipush (v := 60) dX8_type_21 (by decide) ?_
    refine k_icmp_ne (tgt := 32) dX8_type_23 rfl ⟨by omega, by omega⟩ ⟨by decide, by decide⟩ (fun h3 => ?_) (fun h3 => ?_)
    · refine k_iff (F := (k_pP sh (R_type))) h3 ?_
      refine k_aload_n dX8_type_32 0 rfl rfl (by decide) ?_
      refine k_get (kf := 14) (v := .ref 130) dX8_type_33 kcX8 w_1761 (by decide) (by decide) (s_123 hsh) rfl rfl ?_
      refine k_aload_n dX8_type_36 0 rfl rfl (by decide) ?_
      refine k_get (kf := 16) (v := .int (iI ((σ 123) 16))) dX8_type_37 kcX8 w_1763 (by decide) (by decide) (s_123 hsh) rfl rfl ?_
      refine k_iload_n dX8_type_40 1 rfl rfl ?_
      refine k_castW dX8_type_41 (by decide) (s_130 hsh) (by omega) (by omega) (by decide) (k_nC (by omega)) ?_
      refine k_eqσ (σ' := (k_up σ 130 (k_u1 (σ 130) ((σ 123) 16).toNat (c)))) rfl ?_
      refine k_aload_n dX8_type_42 0 rfl rfl (by decide) ?_
      refine k_dup dX8_type_43 rfl ?_
      refine k_get (kf := 16) (v := .int (iI ((σ 123) 16))) dX8_type_44 kcX8 w_1763 (by decide) (by decide) (s_123 hsh) rfl rfl ?_
      refine k_iconst (v := 1) dX8_type_47 rfl ?_
      refine k_iadd dX8_type_48 ?_
      refine k_putfW (kf := 16) dX8_type_49 kcX8 w_1763 (by decide) (by decide) (s_123 hsh) rfl rfl rfl rfl ?_
      refine k_eqσ (σ' := (k_up (k_up σ 123 (k_u1 (σ 123) 16 (((σ 123) 16) + 1))) 130 (k_u1 (σ 130) ((σ 123) 16).toNat (c)))) (show k_up (k_up σ 130 (k_u1 (σ 130) ((σ 123) 16).toNat (c))) 123 (k_u1 (σ 123) 16 (((σ 123) 16) + 1)) = _ from (k_up_comm (by decide))).symm ?_
      refine k_aload_n dX8_type_52 0 rfl rfl (by decide) ?_
      refine k_aload_n dX8_type_53 0 rfl rfl (by decide) ?_
      refine k_get (kf := 16) (v := .int (iI (((σ 123) 16) + 1))) dX8_type_54 kcX8 w_1763 (by decide) (by decide) (s_123 hsh) rfl rfl ?_
      refine k_callVr (st := []) (as := [.int (iI (((σ 123) 16) + 1))]) dX8_type_57 oX8_tells w_1854 w_1856 w_32 rfl (by omega) rfl (Nat.le_of_ble_eq_true rfl) (by decide) (s_123 hsh) rfl (c8_tells hsh) ?_
      refine k_eqσ (σ' := (k_up (k_up σ 123 (k_u1 (k_u1 (σ 123) 16 (((σ 123) 16) + 1)) 7 (0))) 130 (k_u1 (σ 130) ((σ 123) 16).toNat (c)))) ((show k_up (k_up (k_up σ 123 (k_u1 (σ 123) 16 (((σ 123) 16) + 1))) 130 (k_u1 (σ 130) ((σ 123) 16).toNat (c))) 123 (k_u1 (k_u1 (σ 123) 16 (((σ 123) 16) + 1)) 7 (0)) = (k_up (k_up σ 123 (k_u1 (k_u1 (σ 123) 16 (((σ 123) 16) + 1)) 7 (0))) 130 (k_u1 (σ 130) ((σ 123) 16).toNat (c))) from ((k_up_comm (by decide)).trans (congrArg (fun s => k_up s 130 _) k_up_up)))).symm ?_
      exact k_retiP dX8_type_60 rfl rfl rfl (show (-1 ≤ ((σ 123) 16) + 1 ∧ ((σ 123) 16) + 1 ≤ 1000) ∧ k_MA (k_up (k_up σ 123 (k_u1 (k_u1 (σ 123) 16 (((σ 123) 16) + 1)) 7 (0))) 130 (k_u1 (σ 130) ((σ 123) 16).toNat (c))) from ⟨by omega, ⟨(show k_F0 (k_u1 (k_u1 (σ 123) 16 (((σ 123) 16) + 1)) 7 (0)) from (k_F0_u (show k_F0 (k_u1 (σ 123) 16 (((σ 123) 16) + 1)) from (k_F0_u (hMA).1 (by omega))) (by omega))), (hMA).2.1, (hMA).2.2.1, (show k_rg 0 127 (k_u1 (σ 130) ((σ 123) 16).toNat (c)) from (k_rg_u (hMA).2.2.2.1 (by omega))), (hMA).2.2.2.2.1, (hMA).2.2.2.2.2.1, (hMA).2.2.2.2.2.2.1, (hMA).2.2.2.2.2.2.2.1, (hMA).2.2.2.2.2.2.2.2.1, (hMA).2.2.2.2.2.2.2.2.2.1, (hMA).2.2.2.2.2.2.2.2.2.2.1, (hMA).2.2.2.2.2.2.2.2.2.2.2.1, (hMA).2.2.2.2.2.2.2.2.2.2.2.2⟩⟩)
    · refine k_ift (F := (k_pP sh (R_type))) h3 ?_
      refine k_aload_n dX8_type_26 0 rfl rfl (by decide) ?_
      refine k_iconst (v := 2) dX8_type_27 rfl ?_
      refine k_callVr (st := []) (as := [.int (iI (2))]) dX8_type_28 oX8_fails w_1850 w_1852 w_31 rfl (by omega) rfl (Nat.le_of_ble_eq_true rfl) (by decide) (s_123 hsh) rfl (c8_fails hsh) ?_
      refine k_eqσ (σ' := (k_up σ 123 (k_u1 (σ 123) 7 (2)))) ((show k_up σ 123 (k_u1 (σ 123) 7 (2)) = (k_up σ 123 (k_u1 (σ 123) 7 (2))) from rfl)).symm ?_
      exact k_retiP dX8_type_31 rfl rfl rfl (show (-1 ≤ (0 : Int) ∧ (0 : Int) ≤ 1000) ∧ k_MA (k_up σ 123 (k_u1 (σ 123) 7 (2))) from ⟨by omega, ⟨(show k_F0 (k_u1 (σ 123) 7 (2)) from (k_F0_u (hMA).1 (by omega))), (hMA).2.1, (hMA).2.2.1, (hMA).2.2.2.1, (hMA).2.2.2.2.1, (hMA).2.2.2.2.2.1, (hMA).2.2.2.2.2.2.1, (hMA).2.2.2.2.2.2.2.1, (hMA).2.2.2.2.2.2.2.2.1, (hMA).2.2.2.2.2.2.2.2.2.1, (hMA).2.2.2.2.2.2.2.2.2.2.1, (hMA).2.2.2.2.2.2.2.2.2.2.2.1, (hMA).2.2.2.2.2.2.2.2.2.2.2.2⟩⟩)
  · have h2 := zb_0.mp h2
    refine k_iff (F := (k_pP sh (R_type))) h2 ?_
    refine k_aload_n dX8_type_11 0 rfl rfl (by decide) ?_
    refine k_iconst (v := 1) dX8_type_12 rfl ?_
    refine k_callVr (st := []) (as := [.int (iI (1))]) dX8_type_13 oX8_fails w_1850 w_1852 w_31 rfl (by omega) rfl (Nat.le_of_ble_eq_true rfl) (by decide) (s_123 hsh) rfl (c8_fails hsh) ?_
    refine k_eqσ (σ' := (k_up σ 123 (k_u1 (σ 123) 7 (1)))) ((show k_up σ 123 (k_u1 (σ 123) 7 (1)) = (k_up σ 123 (k_u1 (σ 123) 7 (1))) from rfl)).symm ?_
    exact k_retiP dX8_type_16 rfl rfl rfl (show (-1 ≤ (0 : Int) ∧ (0 : Int) ≤ 1000) ∧ k_MA (k_up σ 123 (k_u1 (σ 123) 7 (1))) from ⟨by omega, ⟨(show k_F0 (k_u1 (σ 123) 7 (1)) from (k_F0_u (hMA).1 (by omega))), (hMA).2.1, (hMA).2.2.1, (hMA).2.2.2.1, (hMA).2.2.2.2.1, (hMA).2.2.2.2.2.1, (hMA).2.2.2.2.2.2.1, (hMA).2.2.2.2.2.2.2.1, (hMA).2.2.2.2.2.2.2.2.1, (hMA).2.2.2.2.2.2.2.2.2.1, (hMA).2.2.2.2.2.2.2.2.2.2.1, (hMA).2.2.2.2.2.2.2.2.2.2.2.1, (hMA).2.2.2.2.2.2.2.2.2.2.2.2⟩⟩)
def m_isDigit (f : Nat → Int) (bu : Nat → Int) (kk : Int) : Bool := if kk < (f 28) then if (bu (kk).toNat) < 48 then false else if (bu (kk).toNat) ≤ 57 then true else false else false
set_option maxRecDepth 100000 in
set_option maxHeartbeats 4000000 in
theorem c8_isDigit (hsh : k_Main sh) {kk : Int} (h_kk : 0 ≤ kk ∧ kk < 70) (hF : k_F0 (σ 123)) (hB : k_rg 0 127 (σ 130)) : k_C E mX8_isDigit 1 [.ref 123, .int (iI (kk))] sh σ 0 0 ((k_pB sh σ) (m_isDigit (σ 123) (σ 130) kk)) := by
  refine k_C_of (ls0 := [(0, .ref 123), (1, .int (iI (kk)))]) rfl pnX8 (fun v hv => k_cat1 rfl hv) (Nat.le_of_ble_eq_true rfl) rfl ?_
  obtain ⟨-, -, -, -, -, -, -, -, -, -, -, ⟨f28, g28⟩, -⟩ := id hF
  unfold m_isDigit
  refine k_iload_n dX8_isDigit_0 1 rfl rfl ?_
  refine k_aload_n dX8_isDigit_1 0 rfl rfl (by decide) ?_
  refine k_get (kf := 28) (v := .int (iI ((σ 123) 28))) dX8_isDigit_2 kcX8 w_1775 (by decide) (by decide) (s_123 hsh) rfl rfl ?_
  refine k_icmp_ge (tgt := 34) dX8_isDigit_5 rfl ⟨by omega, by omega⟩ ⟨by omega, by omega⟩ (fun h1 => ?_) (fun h1 => ?_)
  · refine k_iff (F := (k_pB sh σ)) (Int.not_lt.mpr h1) ?_
    refine k_iconst (v := 0) dX8_isDigit_34 rfl ?_
    exact k_retzP dX8_isDigit_35 rfl (Or.inl rfl) rfl k_lfF True.intro
  · refine k_ift (F := (k_pB sh σ)) h1 ?_
    refine k_aload_n dX8_isDigit_8 0 rfl rfl (by decide) ?_
    refine k_get (kf := 14) (v := .ref 130) dX8_isDigit_9 kcX8 w_1761 (by decide) (by decide) (s_123 hsh) rfl rfl ?_
    refine k_iload_n dX8_isDigit_12 1 rfl rfl ?_
    refine k_cald dX8_isDigit_13 (by decide) (s_130 hsh) (by omega) (by omega) (by decide) ?_
    have q2 := hB (kk).toNat
    refine k_bipush (v := 48) dX8_isDigit_14 (by decide) ?_
    refine k_icmp_lt (tgt := 34) dX8_isDigit_16 rfl ⟨by omega, by omega⟩ ⟨by decide, by decide⟩ (fun h3 => ?_) (fun h3 => ?_)
    · refine k_ift (F := (k_pB sh σ)) h3 ?_
      refine k_iconst (v := 0) dX8_isDigit_34 rfl ?_
      exact k_retzP dX8_isDigit_35 rfl (Or.inl rfl) rfl k_lfF True.intro
    · refine k_iff (F := (k_pB sh σ)) (Int.not_lt.mpr h3) ?_
      refine k_aload_n dX8_isDigit_19 0 rfl rfl (by decide) ?_
      refine k_get (kf := 14) (v := .ref 130) dX8_isDigit_20 kcX8 w_1761 (by decide) (by decide) (s_123 hsh) rfl rfl ?_
      refine k_iload_n dX8_isDigit_23 1 rfl rfl ?_
      refine k_cald dX8_isDigit_24 (by decide) (s_130 hsh) (by omega) (by omega) (by decide) ?_
      have q4 := hB (kk).toNat
      refine k_bipush (v := 57) dX8_isDigit_25 (by decide) ?_
      refine k_icmp_gt (tgt := 34) dX8_isDigit_27 rfl ⟨by omega, by omega⟩ ⟨by decide, by decide⟩ (fun h5 => ?_) (fun h5 => ?_)
      · refine k_iff (F := (k_pB sh σ)) (Int.not_le.mpr h5) ?_
        refine k_iconst (v := 0) dX8_isDigit_34 rfl ?_
        exact k_retzP dX8_isDigit_35 rfl (Or.inl rfl) rfl k_lfF True.intro
      · refine k_ift (F := (k_pB sh σ)) h5 ?_
        refine k_iconst (v := 1) dX8_isDigit_30 rfl ?_
        refine k_goto (tgt := 35) dX8_isDigit_31 rfl ?_
        exact k_retzP dX8_isDigit_35 rfl (Or.inr rfl) rfl k_lfT True.intro
/-- the numbers asked for in the first n characters of a form -/
def k_nd (j n : Nat) : Int := k_fold n (fun i a => a + zb (k_ch j i = 68 ∨ k_ch j i = 78)) 0
theorem k_nd_s (j n : Nat) : k_nd j (n + 1) = k_nd j n + zb (k_ch j n = 68 ∨ k_ch j n = 78) := rfl
theorem k_nd_ok : ∀ j, j < 24 → 12 ≤ j → 5 ≤ k_len j ∧ ∀ i, i < k_len j → 0 ≤ k_nd j i ∧ (k_ch j i = 68 ∨ k_ch j i = 78 → k_nd j i ≤ 2) := by decide +kernel
theorem m_isDigit_t {f bu : Nat → Int} {kk : Int} (h : m_isDigit f bu kk = true) : kk < f 28 ∧ 48 ≤ bu kk.toNat ∧ bu kk.toNat ≤ 57 := by
  unfold m_isDigit at h
  by_cases a : kk < f 28
  · by_cases b : 48 ≤ bu kk.toNat
    · by_cases c : bu kk.toNat ≤ 57
      · exact ⟨a, b, c⟩
      · rw [if_pos a, if_neg (Int.not_lt.mpr b), if_neg c] at h
        cases h
    · rw [if_pos a, if_pos (Int.not_le.mp b)] at h
      cases h
  · rw [if_neg a] at h
    cases h
/-- the forms of the commands lie in their row -/
def k_Fo (σ : Nat → Nat → Int) : Prop := ∀ f : Nat, f < 12 → σ 137 f = 1000023 + (f : Int)
theorem k_Fo_of {σ τ : Nat → Nat → Int} (e : τ 137 = σ 137) (h : k_Fo σ) : k_Fo τ := fun f hf => (congrFun e f).trans (h f hf)
abbrev R_reads (σ : Nat → Nat → Int) (fr : Int) (t : Bool × (Nat → Nat → Int)) : Prop := k_MA t.2 ∧ (0 ≤ t.2 123 30 ∧ t.2 123 30 ≤ t.2 123 28) ∧ t.2 123 28 = σ 123 28 ∧ t.2 123 29 = σ 123 29 ∧ t.2 137 = σ 137 ∧ (t.1 = true → fr + 5 ≤ t.2 123 30)
def r_reads_8 (σ : Nat → Nat → Int) (j : Nat) (fr : Int) (x8 : Int × Int × (Nat → Int)) : Bool × (Nat → Nat → Int) := (true, (k_up (k_up σ 123 (k_u1 (σ 123) 30 (x8.1))) 140 (x8.2.2)))
def b_reads_8 (σ : Nat → Nat → Int) (j : Nat) (fr : Int) (i8 : Nat) (x8 : Int × Int × (Nat → Int)) : (Bool × (Nat → Nat → Int)) ⊕ (Int × Int × (Nat → Int)) := if (k_ch j ((i8 : Int)).toNat) = 68 then if m_isDigit (σ 123) (σ 130) (x8.1) = true then if (k_ch j ((i8 : Int)).toNat) = 78 then if m_isDigit (σ 123) (σ 130) ((x8.1) + 1) = true then .inr ((x8.1 + 1 + 1, x8.2.1 + 1, (k_u1 (k_u1 (x8.2.2) (x8.2.1).toNat (((σ 130) (x8.1).toNat) - 48)) (x8.2.1).toNat (((10 * (((σ 130) (x8.1).toNat) - 48)) + ((σ 130) (x8.1 + 1).toNat)) - 48)))) else .inr ((x8.1 + 1, x8.2.1 + 1, (k_u1 (x8.2.2) (x8.2.1).toNat (((σ 130) (x8.1).toNat) - 48)))) else .inr ((x8.1 + 1, x8.2.1 + 1, (k_u1 (x8.2.2) (x8.2.1).toNat (((σ 130) (x8.1).toNat) - 48)))) else .inl ((false, (k_up (k_up σ 123 (k_u1 (σ 123) 30 (x8.1))) 140 (x8.2.2)))) else if (k_ch j ((i8 : Int)).toNat) = 78 then if m_isDigit (σ 123) (σ 130) (x8.1) = true then if (k_ch j ((i8 : Int)).toNat) = 78 then if m_isDigit (σ 123) (σ 130) ((x8.1) + 1) = true then .inr ((x8.1 + 1 + 1, x8.2.1 + 1, (k_u1 (k_u1 (x8.2.2) (x8.2.1).toNat (((σ 130) (x8.1).toNat) - 48)) (x8.2.1).toNat (((10 * (((σ 130) (x8.1).toNat) - 48)) + ((σ 130) (x8.1 + 1).toNat)) - 48)))) else .inr ((x8.1 + 1, x8.2.1 + 1, (k_u1 (x8.2.2) (x8.2.1).toNat (((σ 130) (x8.1).toNat) - 48)))) else .inr ((x8.1 + 1, x8.2.1 + 1, (k_u1 (x8.2.2) (x8.2.1).toNat (((σ 130) (x8.1).toNat) - 48)))) else .inl ((false, (k_up (k_up σ 123 (k_u1 (σ 123) 30 (x8.1))) 140 (x8.2.2)))) else if (x8.1) < ((σ 123) 28) then if ((σ 130) (x8.1).toNat) = (k_ch j ((i8 : Int)).toNat) then .inr ((x8.1 + 1, x8.2.1, (x8.2.2))) else .inl ((false, (k_up (k_up σ 123 (k_u1 (σ 123) 30 (x8.1))) 140 (x8.2.2)))) else .inl ((false, (k_up (k_up σ 123 (k_u1 (σ 123) 30 (x8.1))) 140 (x8.2.2))))
def m_reads (σ : Nat → Nat → Int) (j : Nat) (fr : Int) : Bool × (Nat → Nat → Int) := k_els (r_reads_8 σ j fr) (k_for (b_reads_8 σ j fr) (k_len j) 0 ((fr, 0, (σ 140))))
set_option maxRecDepth 100000 in
set_option maxHeartbeats 4000000 in
theorem c8_reads (hsh : k_Main sh) (hMA : k_MA σ) {j : Nat} {fr : Int} (w_hj : j < 24) (w_h12 : 12 ≤ j) (w_fr : fr ≤ σ 123 28) (h_fr : 0 ≤ fr ∧ fr ≤ 60) : k_C E mX8_reads 5 [.ref 123, .ref (1000010 + j), .int (iI (fr))] sh σ 0 0 ((k_pPB sh (R_reads σ fr)) (m_reads σ j fr)) := by
  refine k_C_of (ls0 := [(0, .ref 123), (1, .ref (1000010 + j)), (2, .int (iI (fr)))]) rfl pnX8 (fun v hv => k_cat1 rfl hv) (Nat.le_of_ble_eq_true rfl) rfl ?_
  obtain ⟨⟨t0, t0b⟩, ⟨t1, t1b⟩, ⟨t2, t2b⟩, ⟨t3, t3b⟩, -⟩ := id hMA.2.1
  obtain ⟨⟨f54_0, g54_0⟩, ⟨f54_1, g54_1⟩, ⟨f54_2, g54_2⟩, ⟨f54_3, g54_3⟩, ⟨f54_4, g54_4⟩, ⟨f54_5, g54_5⟩, ⟨f54_6, g54_6⟩, ⟨f54_7, g54_7⟩, ⟨f54_8, g54_8⟩, ⟨f54_9, g54_9⟩, ⟨f54_10, g54_10⟩, ⟨f54_11, g54_11⟩, ⟨f54_12, g54_12⟩, ⟨f54_13, g54_13⟩⟩ := id hMA.1
  unfold m_reads
  refine k_iload_n dX8_reads_0 2 rfl rfl ?_
  refine k_istore_n (ls' := [(0, .ref 123), (1, .ref (1000010 + j)), (2, .int (iI (fr))), (3, .int (iI (fr)))]) dX8_reads_1 rfl (by decide) rfl rfl ?_
  refine k_iconst (v := 0) dX8_reads_2 rfl ?_
  refine k_istore (ls' := [(0, .ref 123), (1, .ref (1000010 + j)), (2, .int (iI (fr))), (3, .int (iI (fr))), (4, .int (iI (0)))]) dX8_reads_3 (by decide) rfl rfl ?_
  refine k_iconst (v := 0) dX8_reads_5 rfl ?_
  refine k_istore (ls' := [(0, .ref 123), (1, .ref (1000010 + j)), (2, .int (iI (fr))), (3, .int (iI (fr))), (4, .int (iI (0))), (5, .int (iI (0)))]) dX8_reads_6 (by decide) rfl rfl ?_
  refine k_eqσ (σ' := (k_up σ 140 (σ 140))) ((show k_up σ 140 (σ 140) = (k_up σ 140 (σ 140)) from rfl).symm.trans (k_up_self _ _)) ?_
  refine k_loopR (α := Int × Int × (Nat → Int)) (P := fun (i8 : Nat) (x8 : Int × Int × (Nat → Int)) Q => k_V E mX8_reads _ 8 [(0, .ref 123), (1, .ref (1000010 + j)), (2, .int (iI (fr))), (3, .int (iI (x8.1))), (4, .int (iI (x8.2.1))), (5, .int (iI ((i8 : Int))))] [] sh (k_up σ 140 (x8.2.2)) _ _ Q) (J := fun (i8 : Nat) (x8 : Int × Int × (Nat → Int)) => ((fr + (i8 : Int) ≤ x8.1 ∧ x8.1 ≤ (σ 123) 28) ∧ x8.2.1 = k_nd j (i8)) ∧ (k_rg 0 99 x8.2.2)) (k_len j) (b_reads_8 σ j fr) ((fr, 0, (σ 140))) (F := fun t => (k_pPB sh (R_reads σ fr)) (k_els (r_reads_8 σ j fr) t)) (show ((fr + ((0 : Nat) : Int) ≤ fr ∧ fr ≤ (σ 123) 28) ∧ (0 : Int) = k_nd j (0)) ∧ (k_rg 0 99 (σ 140)) from ⟨⟨⟨by omega, by omega⟩, rfl⟩, (hMA).2.2.2.2.2.2.2.2.2.2.2.2⟩) ?_ ?_
  · intro x8 hJ8
    have hJ8 : ((fr + ((k_len j : Nat) : Int) ≤ x8.1 ∧ x8.1 ≤ (σ 123) 28) ∧ x8.2.1 = k_nd j (k_len j)) ∧ (k_rg 0 99 x8.2.2) := hJ8
    obtain ⟨hU8, hW8_140⟩ := id hJ8
    have y_l := (k_nd_ok j w_hj w_h12).1
    show k_V E mX8_reads _ 8 [(0, .ref 123), (1, .ref (1000010 + j)), (2, .int (iI (fr))), (3, .int (iI (x8.1))), (4, .int (iI (x8.2.1))), (5, .int (iI (((k_len j : Nat) : Int))))] [] sh (k_up σ 140 (x8.2.2)) _ _ ((k_pPB sh (R_reads σ fr)) ((r_reads_8 σ j fr) x8))
    unfold r_reads_8
    refine k_iload dX8_reads_8 5 rfl ?_
    refine k_aload_n dX8_reads_10 1 rfl rfl (by omega) ?_
    refine k_callVSr (st := [.int (iI (((k_len j : Nat) : Int)))]) (as := []) dX8_reads_11 oJ0_length_8abf5 w_2260 w_1387 w_1388 rfl (by omega) rfl (Nat.le_of_ble_eq_true rfl) w_hj (c_strLength w_hj) ?_
    have q2 := (k_str_ok j w_hj).1
    refine k_icmp_ge (tgt := 168) dX8_reads_14 rfl ⟨by omega, by omega⟩ ⟨by omega, by omega⟩ (fun h3 => ?_) (fun h3 => absurd h3 (by omega))
    refine k_aload_n dX8_reads_168 0 rfl rfl (by decide) ?_
    refine k_iload_n dX8_reads_169 3 rfl rfl ?_
    refine k_putfW (kf := 30) dX8_reads_170 kcX8 w_1777 (by decide) (by decide) (s_123 hsh) rfl rfl rfl rfl ?_
    refine k_eqσ (σ' := (k_up (k_up σ 123 (k_u1 (σ 123) 30 (x8.1))) 140 (x8.2.2))) (show k_up (k_up σ 140 (x8.2.2)) 123 (k_u1 (σ 123) 30 (x8.1)) = _ from (k_up_comm (by decide))).symm ?_
    refine k_iconst (v := 1) dX8_reads_173 rfl ?_
    exact k_retzP dX8_reads_174 rfl (Or.inr rfl) rfl k_lfT (show k_MA (k_up (k_up σ 123 (k_u1 (σ 123) 30 (x8.1))) 140 (x8.2.2)) ∧ (0 ≤ (k_up (k_up σ 123 (k_u1 (σ 123) 30 (x8.1))) 140 (x8.2.2)) 123 30 ∧ (k_up (k_up σ 123 (k_u1 (σ 123) 30 (x8.1))) 140 (x8.2.2)) 123 30 ≤ (k_up (k_up σ 123 (k_u1 (σ 123) 30 (x8.1))) 140 (x8.2.2)) 123 28) ∧ (k_up (k_up σ 123 (k_u1 (σ 123) 30 (x8.1))) 140 (x8.2.2)) 123 28 = σ 123 28 ∧ (k_up (k_up σ 123 (k_u1 (σ 123) 30 (x8.1))) 140 (x8.2.2)) 123 29 = σ 123 29 ∧ (k_up (k_up σ 123 (k_u1 (σ 123) 30 (x8.1))) 140 (x8.2.2)) 137 = σ 137 ∧ (true = true → fr + 5 ≤ (k_up (k_up σ 123 (k_u1 (σ 123) 30 (x8.1))) 140 (x8.2.2)) 123 30) from ⟨⟨(show k_F0 (k_u1 (σ 123) 30 (x8.1)) from (k_F0_u (hMA).1 (by omega))), (hMA).2.1, (hMA).2.2.1, (hMA).2.2.2.1, (hMA).2.2.2.2.1, (hMA).2.2.2.2.2.1, (hMA).2.2.2.2.2.2.1, (hMA).2.2.2.2.2.2.2.1, (hMA).2.2.2.2.2.2.2.2.1, (hMA).2.2.2.2.2.2.2.2.2.1, (hMA).2.2.2.2.2.2.2.2.2.2.1, (hMA).2.2.2.2.2.2.2.2.2.2.2.1, hW8_140⟩, (show 0 ≤ x8.1 ∧ x8.1 ≤ (σ 123) 28 from by omega), rfl, rfl, rfl, (fun _ => (show fr + 5 ≤ x8.1 from by omega))⟩)
  · intro n8 i8 x8 hi8 hJ8 ih8
    have hJ8 : ((fr + (i8 : Int) ≤ x8.1 ∧ x8.1 ≤ (σ 123) 28) ∧ x8.2.1 = k_nd j (i8)) ∧ (k_rg 0 99 x8.2.2) := hJ8
    obtain ⟨hU8, hW8_140⟩ := id hJ8
    have y_nd := (k_nd_ok j w_hj w_h12).2 i8 (by omega)
    show k_V E mX8_reads _ 8 [(0, .ref 123), (1, .ref (1000010 + j)), (2, .int (iI (fr))), (3, .int (iI (x8.1))), (4, .int (iI (x8.2.1))), (5, .int (iI ((i8 : Int))))] [] sh (k_up σ 140 (x8.2.2)) _ _ ((fun t => (k_pPB sh (R_reads σ fr)) (k_els (r_reads_8 σ j fr) (k_cn2 (k_for (b_reads_8 σ j fr) n8 (i8 + 1)) t))) ((b_reads_8 σ j fr) i8 x8))
    unfold b_reads_8
    refine k_iload dX8_reads_8 5 rfl ?_
    refine k_aload_n dX8_reads_10 1 rfl rfl (by omega) ?_
    refine k_callVSr (st := [.int (iI ((i8 : Int)))]) (as := []) dX8_reads_11 oJ0_length_8abf5 w_2260 w_1387 w_1388 rfl (by omega) rfl (Nat.le_of_ble_eq_true rfl) w_hj (c_strLength w_hj) ?_
    have q4 := (k_str_ok j w_hj).1
    refine k_icmp_ge (tgt := 168) dX8_reads_14 rfl ⟨by omega, by omega⟩ ⟨by omega, by omega⟩ (fun h5 => absurd h5 (by omega)) (fun h5 => ?_)
    refine k_aload_n dX8_reads_17 1 rfl rfl (by omega) ?_
    refine k_iload dX8_reads_18 5 rfl ?_
    refine k_callVSr (st := []) (as := [.int (iI ((i8 : Int)))]) dX8_reads_20 oJ0_charAt_5068e w_2261 w_1641 w_1642 rfl (by omega) rfl (Nat.le_of_ble_eq_true rfl) w_hj (c_strCharAt (j := (i8 : Int)) w_hj ⟨by omega, by omega⟩) ?_
    have q6 := (k_str_ok j w_hj).2 ((i8 : Int)).toNat (by omega)
    refine k_istore (ls' := [(0, .ref 123), (1, .ref (1000010 + j)), (2, .int (iI (fr))), (3, .int (iI (x8.1))), (4, .int (iI (x8.2.1))), (5, .int (iI ((i8 : Int)))), (6, .int (iI (k_ch j ((i8 : Int)).toNat)))]) dX8_reads_23 (by decide) rfl rfl ?_
    refine k_iload dX8_reads_25 6 rfl ?_
    refine k_bipush (v := 68) dX8_reads_27 (by decide) ?_
    refine k_icmp_eq (tgt := 39) dX8_reads_29 rfl ⟨by omega, by omega⟩ ⟨by decide, by decide⟩ (fun h7 => ?_) (fun h7 => ?_)
    · refine k_ift (F := (fun t => (k_pPB sh (R_reads σ fr)) (k_els (r_reads_8 σ j fr) (k_cn2 (k_for (b_reads_8 σ j fr) n8 (i8 + 1)) t)))) h7 ?_
      refine k_iconst (v := 1) dX8_reads_39 rfl ?_
      refine k_goto (tgt := 44) dX8_reads_40 rfl ?_
      refine k_istore (ls' := [(0, .ref 123), (1, .ref (1000010 + j)), (2, .int (iI (fr))), (3, .int (iI (x8.1))), (4, .int (iI (x8.2.1))), (5, .int (iI ((i8 : Int)))), (6, .int (iI (k_ch j ((i8 : Int)).toNat))), (7, .int (iI (1)))]) dX8_reads_44 (by decide) rfl rfl ?_
      refine k_iload dX8_reads_46 7 rfl ?_
      refine k_if_eq (tgt := 62) dX8_reads_48 rfl ⟨by decide, by decide⟩ (fun h8 => absurd h8 (by decide)) (fun h8 => ?_)
      refine k_aload_n dX8_reads_51 0 rfl rfl (by decide) ?_
      refine k_iload_n dX8_reads_52 3 rfl rfl ?_
      refine k_callVrP (st := []) (as := [.int (iI (x8.1))]) dX8_reads_53 oX8_isDigit w_2262 w_2264 w_82 rfl (by omega) rfl (Nat.le_of_ble_eq_true rfl) (by decide) (s_123 hsh) rfl (c8_isDigit (σ := (k_up σ 140 (x8.2.2))) hsh (by omega) (hMA).1 (hMA).2.2.2.1) (fun z9 => ?_)
      refine k_eqst (st' := [.int (iI (zb (m_isDigit (σ 123) (σ 130) (x8.1) = true)))]) rfl ?_
      refine k_if_ne (tgt := 88) dX8_reads_56 rfl (zb_kr _) (fun h10 => ?_) (fun h10 => ?_)
      · have h10 := zb_n0.mp h10
        refine k_ift (F := (fun t => (k_pPB sh (R_reads σ fr)) (k_els (r_reads_8 σ j fr) (k_cn2 (k_for (b_reads_8 σ j fr) n8 (i8 + 1)) t)))) h10 ?_
        refine k_iload dX8_reads_88 7 rfl ?_
        refine k_if_eq (tgt := 159) dX8_reads_90 rfl ⟨by decide, by decide⟩ (fun h11 => absurd h11 (by decide)) (fun h11 => ?_)
        have y12 := m_isDigit_t h10
        have y13 := y_nd.2 (Or.inl h7)
        refine k_aload_n dX8_reads_93 0 rfl rfl (by decide) ?_
        refine k_get (kf := 27) (v := .ref 140) dX8_reads_94 kcX8 w_1774 (by decide) (by decide) (s_123 hsh) rfl rfl ?_
        refine k_iload dX8_reads_97 4 rfl ?_
        refine k_aload_n dX8_reads_99 0 rfl rfl (by decide) ?_
        refine k_get (kf := 14) (v := .ref 130) dX8_reads_100 kcX8 w_1761 (by decide) (by decide) (s_123 hsh) rfl rfl ?_
        refine k_iload_n dX8_reads_103 3 rfl rfl ?_
        refine k_cald dX8_reads_104 (by decide) (s_130 hsh) (by omega) (by omega) (by decide) ?_
        refine k_eqst (st' := [.int (iI ((σ 130) (x8.1).toNat)), .int (iI (x8.2.1)), .ref 140]) rfl ?_
        have q14 := (hMA).2.2.2.1 (x8.1).toNat
        refine k_bipush (v := 48) dX8_reads_105 (by decide) ?_
        refine k_isub dX8_reads_107 ?_
        refine k_iastW dX8_reads_108 (by decide) (s_140 hsh) (by omega) (by omega) (by decide) ?_
        refine k_eqσ (σ' := (k_up σ 140 (k_u1 (x8.2.2) (x8.2.1).toNat (((σ 130) (x8.1).toNat) - 48)))) (show k_up (k_up σ 140 (x8.2.2)) 140 (k_u1 (x8.2.2) (x8.2.1).toNat (((σ 130) (x8.1).toNat) - 48)) = _ from k_up_up).symm ?_
        refine k_iload dX8_reads_109 6 rfl ?_
        refine k_bipush (v := 78) dX8_reads_111 (by decide) ?_
        refine k_icmp_ne (tgt := 156) dX8_reads_113 rfl ⟨by omega, by omega⟩ ⟨by decide, by decide⟩ (fun h15 => ?_) (fun h15 => ?_)
        · refine k_iff (F := (fun t => (k_pPB sh (R_reads σ fr)) (k_els (r_reads_8 σ j fr) (k_cn2 (k_for (b_reads_8 σ j fr) n8 (i8 + 1)) t)))) h15 ?_
          refine k_iinc (ls' := [(0, .ref 123), (1, .ref (1000010 + j)), (2, .int (iI (fr))), (3, .int (iI (x8.1))), (4, .int (iI (x8.2.1 + 1))), (5, .int (iI ((i8 : Int)))), (6, .int (iI (k_ch j ((i8 : Int)).toNat))), (7, .int (iI (1)))]) dX8_reads_156 4 rfl (by decide) rfl rfl ?_
          refine k_iinc (ls' := [(0, .ref 123), (1, .ref (1000010 + j)), (2, .int (iI (fr))), (3, .int (iI (x8.1 + 1))), (4, .int (iI (x8.2.1 + 1))), (5, .int (iI ((i8 : Int)))), (6, .int (iI (k_ch j ((i8 : Int)).toNat))), (7, .int (iI (1)))]) dX8_reads_159 3 rfl (by decide) rfl rfl ?_
          refine k_iinc (ls' := [(0, .ref 123), (1, .ref (1000010 + j)), (2, .int (iI (fr))), (3, .int (iI (x8.1 + 1))), (4, .int (iI (x8.2.1 + 1))), (5, .int (iI ((i8 : Int) + 1))), (6, .int (iI (k_ch j ((i8 : Int)).toNat))), (7, .int (iI (1)))]) dX8_reads_162 5 rfl (by decide) rfl rfl ?_
          refine k_goto (tgt := 8) dX8_reads_165 rfl ?_
          refine k_dropr (ls' := [(0, .ref 123), (1, .ref (1000010 + j)), (2, .int (iI (fr))), (3, .int (iI (x8.1 + 1))), (4, .int (iI (x8.2.1 + 1))), (5, .int (iI ((i8 : Int) + 1)))]) (ex := [(6, .int (iI (k_ch j ((i8 : Int)).toNat))), (7, .int (iI (1)))]) rfl ?_
          have y16 : zb (k_ch j i8 = 68 ∨ k_ch j i8 = 78) = 1 := zb_t (Or.inl h7)
          have y17 := k_nd_s j i8
          exact ih8 ((x8.1 + 1, x8.2.1 + 1, (k_u1 (x8.2.2) (x8.2.1).toNat (((σ 130) (x8.1).toNat) - 48)))) (show ((fr + ((i8 + 1 : Nat) : Int) ≤ x8.1 + 1 ∧ x8.1 + 1 ≤ (σ 123) 28) ∧ x8.2.1 + 1 = k_nd j (i8 + 1)) ∧ (k_rg 0 99 (k_u1 (x8.2.2) (x8.2.1).toNat (((σ 130) (x8.1).toNat) - 48))) from ⟨(by omega), (show k_rg 0 99 (k_u1 (x8.2.2) (x8.2.1).toNat (((σ 130) (x8.1).toNat) - 48)) from (k_rg_u hW8_140 (by omega)))⟩)
        · refine k_ift (F := (fun t => (k_pPB sh (R_reads σ fr)) (k_els (r_reads_8 σ j fr) (k_cn2 (k_for (b_reads_8 σ j fr) n8 (i8 + 1)) t)))) h15 ?_
          refine k_aload_n dX8_reads_116 0 rfl rfl (by decide) ?_
          refine k_iload_n dX8_reads_117 3 rfl rfl ?_
          refine k_iconst (v := 1) dX8_reads_118 rfl ?_
          refine k_iadd dX8_reads_119 ?_
          refine k_callVrP (st := []) (as := [.int (iI ((x8.1) + 1))]) dX8_reads_120 oX8_isDigit w_2262 w_2264 w_82 rfl (by omega) rfl (Nat.le_of_ble_eq_true rfl) (by decide) (s_123 hsh) rfl (c8_isDigit (σ := (k_up σ 140 (k_u1 (x8.2.2) (x8.2.1).toNat (((σ 130) (x8.1).toNat) - 48)))) hsh (by omega) (hMA).1 (hMA).2.2.2.1) (fun z18 => ?_)
          refine k_eqst (st' := [.int (iI (zb (m_isDigit (σ 123) (σ 130) ((x8.1) + 1) = true)))]) rfl ?_
          refine k_if_eq (tgt := 156) dX8_reads_123 rfl (zb_kr _) (fun h19 => ?_) (fun h19 => ?_)
          · have h19 := zb_0.mp h19
            refine k_iff (F := (fun t => (k_pPB sh (R_reads σ fr)) (k_els (r_reads_8 σ j fr) (k_cn2 (k_for (b_reads_8 σ j fr) n8 (i8 + 1)) t)))) h19 ?_
            refine k_iinc (ls' := [(0, .ref 123), (1, .ref (1000010 + j)), (2, .int (iI (fr))), (3, .int (iI (x8.1))), (4, .int (iI (x8.2.1 + 1))), (5, .int (iI ((i8 : Int)))), (6, .int (iI (k_ch j ((i8 : Int)).toNat))), (7, .int (iI (1)))]) dX8_reads_156 4 rfl (by decide) rfl rfl ?_
            refine k_iinc (ls' := [(0, .ref 123), (1, .ref (1000010 + j)), (2, .int (iI (fr))), (3, .int (iI (x8.1 + 1))), (4, .int (iI (x8.2.1 + 1))), (5, .int (iI ((i8 : Int)))), (6, .int (iI (k_ch j ((i8 : Int)).toNat))), (7, .int (iI (1)))]) dX8_reads_159 3 rfl (by decide) rfl rfl ?_
            refine k_iinc (ls' := [(0, .ref 123), (1, .ref (1000010 + j)), (2, .int (iI (fr))), (3, .int (iI (x8.1 + 1))), (4, .int (iI (x8.2.1 + 1))), (5, .int (iI ((i8 : Int) + 1))), (6, .int (iI (k_ch j ((i8 : Int)).toNat))), (7, .int (iI (1)))]) dX8_reads_162 5 rfl (by decide) rfl rfl ?_
            refine k_goto (tgt := 8) dX8_reads_165 rfl ?_
            refine k_dropr (ls' := [(0, .ref 123), (1, .ref (1000010 + j)), (2, .int (iI (fr))), (3, .int (iI (x8.1 + 1))), (4, .int (iI (x8.2.1 + 1))), (5, .int (iI ((i8 : Int) + 1)))]) (ex := [(6, .int (iI (k_ch j ((i8 : Int)).toNat))), (7, .int (iI (1)))]) rfl ?_
            have y20 : zb (k_ch j i8 = 68 ∨ k_ch j i8 = 78) = 1 := zb_t (Or.inl h7)
            have y21 := k_nd_s j i8
            exact ih8 ((x8.1 + 1, x8.2.1 + 1, (k_u1 (x8.2.2) (x8.2.1).toNat (((σ 130) (x8.1).toNat) - 48)))) (show ((fr + ((i8 + 1 : Nat) : Int) ≤ x8.1 + 1 ∧ x8.1 + 1 ≤ (σ 123) 28) ∧ x8.2.1 + 1 = k_nd j (i8 + 1)) ∧ (k_rg 0 99 (k_u1 (x8.2.2) (x8.2.1).toNat (((σ 130) (x8.1).toNat) - 48))) from ⟨(by omega), (show k_rg 0 99 (k_u1 (x8.2.2) (x8.2.1).toNat (((σ 130) (x8.1).toNat) - 48)) from (k_rg_u hW8_140 (by omega)))⟩)
          · have h19 := zb_n0.mp h19
            refine k_ift (F := (fun t => (k_pPB sh (R_reads σ fr)) (k_els (r_reads_8 σ j fr) (k_cn2 (k_for (b_reads_8 σ j fr) n8 (i8 + 1)) t)))) h19 ?_
            have y22 := m_isDigit_t h19
            refine k_iinc (ls' := [(0, .ref 123), (1, .ref (1000010 + j)), (2, .int (iI (fr))), (3, .int (iI (x8.1 + 1))), (4, .int (iI (x8.2.1))), (5, .int (iI ((i8 : Int)))), (6, .int (iI (k_ch j ((i8 : Int)).toNat))), (7, .int (iI (1)))]) dX8_reads_126 3 rfl (by decide) rfl rfl ?_
            refine k_aload_n dX8_reads_129 0 rfl rfl (by decide) ?_
            refine k_get (kf := 27) (v := .ref 140) dX8_reads_130 kcX8 w_1774 (by decide) (by decide) (s_123 hsh) rfl rfl ?_
            refine k_iload dX8_reads_133 4 rfl ?_
            refine k_bipush (v := 10) dX8_reads_135 (by decide) ?_
            refine k_aload_n dX8_reads_137 0 rfl rfl (by decide) ?_
            refine k_get (kf := 27) (v := .ref 140) dX8_reads_138 kcX8 w_1774 (by decide) (by decide) (s_123 hsh) rfl rfl ?_
            refine k_iload dX8_reads_141 4 rfl ?_
            refine k_iald dX8_reads_143 (by decide) (s_140 hsh) (by omega) (by omega) (by decide) ?_
            refine k_eqst (st' := [.int (iI (((σ 130) (x8.1).toNat) - 48)), .int (iI (10)), .int (iI (x8.2.1)), .ref 140]) (congrArg (fun z : Int => Value.int (iI z) :: [.int (iI (10)), .int (iI (x8.2.1)), .ref 140]) (show ((σ 130) (x8.1).toNat) - 48 = (k_u1 (x8.2.2) (x8.2.1).toNat (((σ 130) (x8.1).toNat) - 48)) (x8.2.1).toNat from (k_u1_same).symm)) ?_
            have q23 := (show k_rg 0 99 (k_u1 (x8.2.2) (x8.2.1).toNat (((σ 130) (x8.1).toNat) - 48)) from (k_rg_u hW8_140 (by omega))) (x8.2.1).toNat
            refine k_imul dX8_reads_144 ?_
            refine k_aload_n dX8_reads_145 0 rfl rfl (by decide) ?_
            refine k_get (kf := 14) (v := .ref 130) dX8_reads_146 kcX8 w_1761 (by decide) (by decide) (s_123 hsh) rfl rfl ?_
            refine k_iload_n dX8_reads_149 3 rfl rfl ?_
            refine k_cald dX8_reads_150 (by decide) (s_130 hsh) (by omega) (by omega) (by decide) ?_
            refine k_eqst (st' := [.int (iI ((σ 130) (x8.1 + 1).toNat)), .int (iI (10 * (((σ 130) (x8.1).toNat) - 48))), .int (iI (x8.2.1)), .ref 140]) rfl ?_
            have q24 := (hMA).2.2.2.1 (x8.1 + 1).toNat
            refine k_iadd dX8_reads_151 ?_
            refine k_bipush (v := 48) dX8_reads_152 (by decide) ?_
            refine k_isub dX8_reads_154 ?_
            refine k_iastW dX8_reads_155 (by decide) (s_140 hsh) (by omega) (by omega) (by decide) ?_
            refine k_eqσ (σ' := (k_up σ 140 (k_u1 (k_u1 (x8.2.2) (x8.2.1).toNat (((σ 130) (x8.1).toNat) - 48)) (x8.2.1).toNat (((10 * (((σ 130) (x8.1).toNat) - 48)) + ((σ 130) (x8.1 + 1).toNat)) - 48)))) (show k_up (k_up σ 140 (k_u1 (x8.2.2) (x8.2.1).toNat (((σ 130) (x8.1).toNat) - 48))) 140 (k_u1 (k_u1 (x8.2.2) (x8.2.1).toNat (((σ 130) (x8.1).toNat) - 48)) (x8.2.1).toNat (((10 * (((σ 130) (x8.1).toNat) - 48)) + ((σ 130) (x8.1 + 1).toNat)) - 48)) = _ from k_up_up).symm ?_
            refine k_iinc (ls' := [(0, .ref 123), (1, .ref (1000010 + j)), (2, .int (iI (fr))), (3, .int (iI (x8.1 + 1))), (4, .int (iI (x8.2.1 + 1))), (5, .int (iI ((i8 : Int)))), (6, .int (iI (k_ch j ((i8 : Int)).toNat))), (7, .int (iI (1)))]) dX8_reads_156 4 rfl (by decide) rfl rfl ?_
            refine k_iinc (ls' := [(0, .ref 123), (1, .ref (1000010 + j)), (2, .int (iI (fr))), (3, .int (iI (x8.1 + 1 + 1))), (4, .int (iI (x8.2.1 + 1))), (5, .int (iI ((i8 : Int)))), (6, .int (iI (k_ch j ((i8 : Int)).toNat))), (7, .int (iI (1)))]) dX8_reads_159 3 rfl (by decide) rfl rfl ?_
            refine k_iinc (ls' := [(0, .ref 123), (1, .ref (1000010 + j)), (2, .int (iI (fr))), (3, .int (iI (x8.1 + 1 + 1))), (4, .int (iI (x8.2.1 + 1))), (5, .int (iI ((i8 : Int) + 1))), (6, .int (iI (k_ch j ((i8 : Int)).toNat))), (7, .int (iI (1)))]) dX8_reads_162 5 rfl (by decide) rfl rfl ?_
            refine k_goto (tgt := 8) dX8_reads_165 rfl ?_
            refine k_dropr (ls' := [(0, .ref 123), (1, .ref (1000010 + j)), (2, .int (iI (fr))), (3, .int (iI (x8.1 + 1 + 1))), (4, .int (iI (x8.2.1 + 1))), (5, .int (iI ((i8 : Int) + 1)))]) (ex := [(6, .int (iI (k_ch j ((i8 : Int)).toNat))), (7, .int (iI (1)))]) rfl ?_
            have y25 : zb (k_ch j i8 = 68 ∨ k_ch j i8 = 78) = 1 := zb_t (Or.inl h7)
            have y26 := k_nd_s j i8
            exact ih8 ((x8.1 + 1 + 1, x8.2.1 + 1, (k_u1 (k_u1 (x8.2.2) (x8.2.1).toNat (((σ 130) (x8.1).toNat) - 48)) (x8.2.1).toNat (((10 * (((σ 130) (x8.1).toNat) - 48)) + ((σ 130) (x8.1 + 1).toNat)) - 48)))) (show ((fr + ((i8 + 1 : Nat) : Int) ≤ x8.1 + 1 + 1 ∧ x8.1 + 1 + 1 ≤ (σ 123) 28) ∧ x8.2.1 + 1 = k_nd j (i8 + 1)) ∧ (k_rg 0 99 (k_u1 (k_u1 (x8.2.2) (x8.2.1).toNat (((σ 130) (x8.1).toNat) - 48)) (x8.2.1).toNat (((10 * (((σ 130) (x8.1).toNat) - 48)) + ((σ 130) (x8.1 + 1).toNat)) - 48))) from ⟨(by omega), (show k_rg 0 99 (k_u1 (k_u1 (x8.2.2) (x8.2.1).toNat (((σ 130) (x8.1).toNat) - 48)) (x8.2.1).toNat (((10 * (((σ 130) (x8.1).toNat) - 48)) + ((σ 130) (x8.1 + 1).toNat)) - 48)) from (k_rg_u (show k_rg 0 99 (k_u1 (x8.2.2) (x8.2.1).toNat (((σ 130) (x8.1).toNat) - 48)) from (k_rg_u hW8_140 (by omega))) (by omega)))⟩)
      · have h10 := zb_0.mp h10
        refine k_iff (F := (fun t => (k_pPB sh (R_reads σ fr)) (k_els (r_reads_8 σ j fr) (k_cn2 (k_for (b_reads_8 σ j fr) n8 (i8 + 1)) t)))) h10 ?_
        refine k_goto (tgt := 81) dX8_reads_59 rfl ?_
        refine k_aload_n dX8_reads_81 0 rfl rfl (by decide) ?_
        refine k_iload_n dX8_reads_82 3 rfl rfl ?_
        refine k_putfW (kf := 30) dX8_reads_83 kcX8 w_1777 (by decide) (by decide) (s_123 hsh) rfl rfl rfl rfl ?_
        refine k_eqσ (σ' := (k_up (k_up σ 123 (k_u1 (σ 123) 30 (x8.1))) 140 (x8.2.2))) (show k_up (k_up σ 140 (x8.2.2)) 123 (k_u1 (σ 123) 30 (x8.1)) = _ from (k_up_comm (by decide))).symm ?_
        refine k_iconst (v := 0) dX8_reads_86 rfl ?_
        exact k_retzP dX8_reads_87 rfl (Or.inl rfl) rfl k_lfF (show k_MA (k_up (k_up σ 123 (k_u1 (σ 123) 30 (x8.1))) 140 (x8.2.2)) ∧ (0 ≤ (k_up (k_up σ 123 (k_u1 (σ 123) 30 (x8.1))) 140 (x8.2.2)) 123 30 ∧ (k_up (k_up σ 123 (k_u1 (σ 123) 30 (x8.1))) 140 (x8.2.2)) 123 30 ≤ (k_up (k_up σ 123 (k_u1 (σ 123) 30 (x8.1))) 140 (x8.2.2)) 123 28) ∧ (k_up (k_up σ 123 (k_u1 (σ 123) 30 (x8.1))) 140 (x8.2.2)) 123 28 = σ 123 28 ∧ (k_up (k_up σ 123 (k_u1 (σ 123) 30 (x8.1))) 140 (x8.2.2)) 123 29 = σ 123 29 ∧ (k_up (k_up σ 123 (k_u1 (σ 123) 30 (x8.1))) 140 (x8.2.2)) 137 = σ 137 ∧ (false = true → fr + 5 ≤ (k_up (k_up σ 123 (k_u1 (σ 123) 30 (x8.1))) 140 (x8.2.2)) 123 30) from ⟨⟨(show k_F0 (k_u1 (σ 123) 30 (x8.1)) from (k_F0_u (hMA).1 (by omega))), (hMA).2.1, (hMA).2.2.1, (hMA).2.2.2.1, (hMA).2.2.2.2.1, (hMA).2.2.2.2.2.1, (hMA).2.2.2.2.2.2.1, (hMA).2.2.2.2.2.2.2.1, (hMA).2.2.2.2.2.2.2.2.1, (hMA).2.2.2.2.2.2.2.2.2.1, (hMA).2.2.2.2.2.2.2.2.2.2.1, (hMA).2.2.2.2.2.2.2.2.2.2.2.1, hW8_140⟩, (show 0 ≤ x8.1 ∧ x8.1 ≤ (σ 123) 28 from by omega), rfl, rfl, rfl, fun h => absurd h (by decide)⟩)
    · refine k_iff (F := (fun t => (k_pPB sh (R_reads σ fr)) (k_els (r_reads_8 σ j fr) (k_cn2 (k_for (b_reads_8 σ j fr) n8 (i8 + 1)) t)))) h7 ?_
      refine k_iload dX8_reads_32 6 rfl ?_
      refine k_bipush (v := 78) dX8_reads_34 (by decide) ?_
      refine k_icmp_ne (tgt := 43) dX8_reads_36 rfl ⟨by omega, by omega⟩ ⟨by decide, by decide⟩ (fun h27 => ?_) (fun h27 => ?_)
      · refine k_iff (F := (fun t => (k_pPB sh (R_reads σ fr)) (k_els (r_reads_8 σ j fr) (k_cn2 (k_for (b_reads_8 σ j fr) n8 (i8 + 1)) t)))) h27 ?_
        refine k_iconst (v := 0) dX8_reads_43 rfl ?_
        refine k_istore (ls' := [(0, .ref 123), (1, .ref (1000010 + j)), (2, .int (iI (fr))), (3, .int (iI (x8.1))), (4, .int (iI (x8.2.1))), (5, .int (iI ((i8 : Int)))), (6, .int (iI (k_ch j ((i8 : Int)).toNat))), (7, .int (iI (0)))]) dX8_reads_44 (by decide) rfl rfl ?_
        refine k_iload dX8_reads_46 7 rfl ?_
        refine k_if_eq (tgt := 62) dX8_reads_48 rfl ⟨by decide, by decide⟩ (fun h28 => ?_) (fun h28 => absurd h28 (by decide))
        refine k_iload_n dX8_reads_62 3 rfl rfl ?_
        refine k_aload_n dX8_reads_63 0 rfl rfl (by decide) ?_
        refine k_get (kf := 28) (v := .int (iI ((σ 123) 28))) dX8_reads_64 kcX8 w_1775 (by decide) (by decide) (s_123 hsh) rfl rfl ?_
        refine k_icmp_ge (tgt := 81) dX8_reads_67 rfl ⟨by omega, by omega⟩ ⟨by omega, by omega⟩ (fun h29 => ?_) (fun h29 => ?_)
        · refine k_iff (F := (fun t => (k_pPB sh (R_reads σ fr)) (k_els (r_reads_8 σ j fr) (k_cn2 (k_for (b_reads_8 σ j fr) n8 (i8 + 1)) t)))) (Int.not_lt.mpr h29) ?_
          refine k_aload_n dX8_reads_81 0 rfl rfl (by decide) ?_
          refine k_iload_n dX8_reads_82 3 rfl rfl ?_
          refine k_putfW (kf := 30) dX8_reads_83 kcX8 w_1777 (by decide) (by decide) (s_123 hsh) rfl rfl rfl rfl ?_
          refine k_eqσ (σ' := (k_up (k_up σ 123 (k_u1 (σ 123) 30 (x8.1))) 140 (x8.2.2))) (show k_up (k_up σ 140 (x8.2.2)) 123 (k_u1 (σ 123) 30 (x8.1)) = _ from (k_up_comm (by decide))).symm ?_
          refine k_iconst (v := 0) dX8_reads_86 rfl ?_
          exact k_retzP dX8_reads_87 rfl (Or.inl rfl) rfl k_lfF (show k_MA (k_up (k_up σ 123 (k_u1 (σ 123) 30 (x8.1))) 140 (x8.2.2)) ∧ (0 ≤ (k_up (k_up σ 123 (k_u1 (σ 123) 30 (x8.1))) 140 (x8.2.2)) 123 30 ∧ (k_up (k_up σ 123 (k_u1 (σ 123) 30 (x8.1))) 140 (x8.2.2)) 123 30 ≤ (k_up (k_up σ 123 (k_u1 (σ 123) 30 (x8.1))) 140 (x8.2.2)) 123 28) ∧ (k_up (k_up σ 123 (k_u1 (σ 123) 30 (x8.1))) 140 (x8.2.2)) 123 28 = σ 123 28 ∧ (k_up (k_up σ 123 (k_u1 (σ 123) 30 (x8.1))) 140 (x8.2.2)) 123 29 = σ 123 29 ∧ (k_up (k_up σ 123 (k_u1 (σ 123) 30 (x8.1))) 140 (x8.2.2)) 137 = σ 137 ∧ (false = true → fr + 5 ≤ (k_up (k_up σ 123 (k_u1 (σ 123) 30 (x8.1))) 140 (x8.2.2)) 123 30) from ⟨⟨(show k_F0 (k_u1 (σ 123) 30 (x8.1)) from (k_F0_u (hMA).1 (by omega))), (hMA).2.1, (hMA).2.2.1, (hMA).2.2.2.1, (hMA).2.2.2.2.1, (hMA).2.2.2.2.2.1, (hMA).2.2.2.2.2.2.1, (hMA).2.2.2.2.2.2.2.1, (hMA).2.2.2.2.2.2.2.2.1, (hMA).2.2.2.2.2.2.2.2.2.1, (hMA).2.2.2.2.2.2.2.2.2.2.1, (hMA).2.2.2.2.2.2.2.2.2.2.2.1, hW8_140⟩, (show 0 ≤ x8.1 ∧ x8.1 ≤ (σ 123) 28 from by omega), rfl, rfl, rfl, fun h => absurd h (by decide)⟩)
        · refine k_ift (F := (fun t => (k_pPB sh (R_reads σ fr)) (k_els (r_reads_8 σ j fr) (k_cn2 (k_for (b_reads_8 σ j fr) n8 (i8 + 1)) t)))) h29 ?_
          refine k_aload_n dX8_reads_70 0 rfl rfl (by decide) ?_
          refine k_get (kf := 14) (v := .ref 130) dX8_reads_71 kcX8 w_1761 (by decide) (by decide) (s_123 hsh) rfl rfl ?_
          refine k_iload_n dX8_reads_74 3 rfl rfl ?_
          refine k_cald dX8_reads_75 (by decide) (s_130 hsh) (by omega) (by omega) (by decide) ?_
          refine k_eqst (st' := [.int (iI ((σ 130) (x8.1).toNat))]) rfl ?_
          have q30 := (hMA).2.2.2.1 (x8.1).toNat
          refine k_iload dX8_reads_76 6 rfl ?_
          refine k_icmp_eq (tgt := 88) dX8_reads_78 rfl ⟨by omega, by omega⟩ ⟨by omega, by omega⟩ (fun h31 => ?_) (fun h31 => ?_)
          · refine k_ift (F := (fun t => (k_pPB sh (R_reads σ fr)) (k_els (r_reads_8 σ j fr) (k_cn2 (k_for (b_reads_8 σ j fr) n8 (i8 + 1)) t)))) h31 ?_
            refine k_iload dX8_reads_88 7 rfl ?_
            refine k_if_eq (tgt := 159) dX8_reads_90 rfl ⟨by decide, by decide⟩ (fun h32 => ?_) (fun h32 => absurd h32 (by decide))
            refine k_iinc (ls' := [(0, .ref 123), (1, .ref (1000010 + j)), (2, .int (iI (fr))), (3, .int (iI (x8.1 + 1))), (4, .int (iI (x8.2.1))), (5, .int (iI ((i8 : Int)))), (6, .int (iI (k_ch j ((i8 : Int)).toNat))), (7, .int (iI (0)))]) dX8_reads_159 3 rfl (by decide) rfl rfl ?_
            refine k_iinc (ls' := [(0, .ref 123), (1, .ref (1000010 + j)), (2, .int (iI (fr))), (3, .int (iI (x8.1 + 1))), (4, .int (iI (x8.2.1))), (5, .int (iI ((i8 : Int) + 1))), (6, .int (iI (k_ch j ((i8 : Int)).toNat))), (7, .int (iI (0)))]) dX8_reads_162 5 rfl (by decide) rfl rfl ?_
            refine k_goto (tgt := 8) dX8_reads_165 rfl ?_
            refine k_dropr (ls' := [(0, .ref 123), (1, .ref (1000010 + j)), (2, .int (iI (fr))), (3, .int (iI (x8.1 + 1))), (4, .int (iI (x8.2.1))), (5, .int (iI ((i8 : Int) + 1)))]) (ex := [(6, .int (iI (k_ch j ((i8 : Int)).toNat))), (7, .int (iI (0)))]) rfl ?_
            have y33 : zb (k_ch j i8 = 68 ∨ k_ch j i8 = 78) = 0 := zb_f (fun q => q.elim h7 h27)
            have y34 := k_nd_s j i8
            exact ih8 ((x8.1 + 1, x8.2.1, (x8.2.2))) (show ((fr + ((i8 + 1 : Nat) : Int) ≤ x8.1 + 1 ∧ x8.1 + 1 ≤ (σ 123) 28) ∧ x8.2.1 = k_nd j (i8 + 1)) ∧ (k_rg 0 99 (x8.2.2)) from ⟨(by omega), hW8_140⟩)
          · refine k_iff (F := (fun t => (k_pPB sh (R_reads σ fr)) (k_els (r_reads_8 σ j fr) (k_cn2 (k_for (b_reads_8 σ j fr) n8 (i8 + 1)) t)))) h31 ?_
            refine k_aload_n dX8_reads_81 0 rfl rfl (by decide) ?_
            refine k_iload_n dX8_reads_82 3 rfl rfl ?_
            refine k_putfW (kf := 30) dX8_reads_83 kcX8 w_1777 (by decide) (by decide) (s_123 hsh) rfl rfl rfl rfl ?_
            refine k_eqσ (σ' := (k_up (k_up σ 123 (k_u1 (σ 123) 30 (x8.1))) 140 (x8.2.2))) (show k_up (k_up σ 140 (x8.2.2)) 123 (k_u1 (σ 123) 30 (x8.1)) = _ from (k_up_comm (by decide))).symm ?_
            refine k_iconst (v := 0) dX8_reads_86 rfl ?_
            exact k_retzP dX8_reads_87 rfl (Or.inl rfl) rfl k_lfF (show k_MA (k_up (k_up σ 123 (k_u1 (σ 123) 30 (x8.1))) 140 (x8.2.2)) ∧ (0 ≤ (k_up (k_up σ 123 (k_u1 (σ 123) 30 (x8.1))) 140 (x8.2.2)) 123 30 ∧ (k_up (k_up σ 123 (k_u1 (σ 123) 30 (x8.1))) 140 (x8.2.2)) 123 30 ≤ (k_up (k_up σ 123 (k_u1 (σ 123) 30 (x8.1))) 140 (x8.2.2)) 123 28) ∧ (k_up (k_up σ 123 (k_u1 (σ 123) 30 (x8.1))) 140 (x8.2.2)) 123 28 = σ 123 28 ∧ (k_up (k_up σ 123 (k_u1 (σ 123) 30 (x8.1))) 140 (x8.2.2)) 123 29 = σ 123 29 ∧ (k_up (k_up σ 123 (k_u1 (σ 123) 30 (x8.1))) 140 (x8.2.2)) 137 = σ 137 ∧ (false = true → fr + 5 ≤ (k_up (k_up σ 123 (k_u1 (σ 123) 30 (x8.1))) 140 (x8.2.2)) 123 30) from ⟨⟨(show k_F0 (k_u1 (σ 123) 30 (x8.1)) from (k_F0_u (hMA).1 (by omega))), (hMA).2.1, (hMA).2.2.1, (hMA).2.2.2.1, (hMA).2.2.2.2.1, (hMA).2.2.2.2.2.1, (hMA).2.2.2.2.2.2.1, (hMA).2.2.2.2.2.2.2.1, (hMA).2.2.2.2.2.2.2.2.1, (hMA).2.2.2.2.2.2.2.2.2.1, (hMA).2.2.2.2.2.2.2.2.2.2.1, (hMA).2.2.2.2.2.2.2.2.2.2.2.1, hW8_140⟩, (show 0 ≤ x8.1 ∧ x8.1 ≤ (σ 123) 28 from by omega), rfl, rfl, rfl, fun h => absurd h (by decide)⟩)
      · refine k_ift (F := (fun t => (k_pPB sh (R_reads σ fr)) (k_els (r_reads_8 σ j fr) (k_cn2 (k_for (b_reads_8 σ j fr) n8 (i8 + 1)) t)))) h27 ?_
        refine k_iconst (v := 1) dX8_reads_39 rfl ?_
        refine k_goto (tgt := 44) dX8_reads_40 rfl ?_
        refine k_istore (ls' := [(0, .ref 123), (1, .ref (1000010 + j)), (2, .int (iI (fr))), (3, .int (iI (x8.1))), (4, .int (iI (x8.2.1))), (5, .int (iI ((i8 : Int)))), (6, .int (iI (k_ch j ((i8 : Int)).toNat))), (7, .int (iI (1)))]) dX8_reads_44 (by decide) rfl rfl ?_
        refine k_iload dX8_reads_46 7 rfl ?_
        refine k_if_eq (tgt := 62) dX8_reads_48 rfl ⟨by decide, by decide⟩ (fun h35 => absurd h35 (by decide)) (fun h35 => ?_)
        refine k_aload_n dX8_reads_51 0 rfl rfl (by decide) ?_
        refine k_iload_n dX8_reads_52 3 rfl rfl ?_
        refine k_callVrP (st := []) (as := [.int (iI (x8.1))]) dX8_reads_53 oX8_isDigit w_2262 w_2264 w_82 rfl (by omega) rfl (Nat.le_of_ble_eq_true rfl) (by decide) (s_123 hsh) rfl (c8_isDigit (σ := (k_up σ 140 (x8.2.2))) hsh (by omega) (hMA).1 (hMA).2.2.2.1) (fun z36 => ?_)
        refine k_eqst (st' := [.int (iI (zb (m_isDigit (σ 123) (σ 130) (x8.1) = true)))]) rfl ?_
        refine k_if_ne (tgt := 88) dX8_reads_56 rfl (zb_kr _) (fun h37 => ?_) (fun h37 => ?_)
        · have h37 := zb_n0.mp h37
          refine k_ift (F := (fun t => (k_pPB sh (R_reads σ fr)) (k_els (r_reads_8 σ j fr) (k_cn2 (k_for (b_reads_8 σ j fr) n8 (i8 + 1)) t)))) h37 ?_
          refine k_iload dX8_reads_88 7 rfl ?_
          refine k_if_eq (tgt := 159) dX8_reads_90 rfl ⟨by decide, by decide⟩ (fun h38 => absurd h38 (by decide)) (fun h38 => ?_)
          have y39 := m_isDigit_t h37
          have y40 := y_nd.2 (Or.inr h27)
          refine k_aload_n dX8_reads_93 0 rfl rfl (by decide) ?_
          refine k_get (kf := 27) (v := .ref 140) dX8_reads_94 kcX8 w_1774 (by decide) (by decide) (s_123 hsh) rfl rfl ?_
          refine k_iload dX8_reads_97 4 rfl ?_
          refine k_aload_n dX8_reads_99 0 rfl rfl (by decide) ?_
          refine k_get (kf := 14) (v := .ref 130) dX8_reads_100 kcX8 w_1761 (by decide) (by decide) (s_123 hsh) rfl rfl ?_
          refine k_iload_n dX8_reads_103 3 rfl rfl ?_
          refine k_cald dX8_reads_104 (by decide) (s_130 hsh) (by omega) (by omega) (by decide) ?_
          refine k_eqst (st' := [.int (iI ((σ 130) (x8.1).toNat)), .int (iI (x8.2.1)), .ref 140]) rfl ?_
          have q41 := (hMA).2.2.2.1 (x8.1).toNat
          refine k_bipush (v := 48) dX8_reads_105 (by decide) ?_
          refine k_isub dX8_reads_107 ?_
          refine k_iastW dX8_reads_108 (by decide) (s_140 hsh) (by omega) (by omega) (by decide) ?_
          refine k_eqσ (σ' := (k_up σ 140 (k_u1 (x8.2.2) (x8.2.1).toNat (((σ 130) (x8.1).toNat) - 48)))) (show k_up (k_up σ 140 (x8.2.2)) 140 (k_u1 (x8.2.2) (x8.2.1).toNat (((σ 130) (x8.1).toNat) - 48)) = _ from k_up_up).symm ?_
          refine k_iload dX8_reads_109 6 rfl ?_
          refine k_bipush (v := 78) dX8_reads_111 (by decide) ?_
          refine k_icmp_ne (tgt := 156) dX8_reads_113 rfl ⟨by omega, by omega⟩ ⟨by decide, by decide⟩ (fun h42 => ?_) (fun h42 => ?_)
          · refine k_iff (F := (fun t => (k_pPB sh (R_reads σ fr)) (k_els (r_reads_8 σ j fr) (k_cn2 (k_for (b_reads_8 σ j fr) n8 (i8 + 1)) t)))) h42 ?_
            refine k_iinc (ls' := [(0, .ref 123), (1, .ref (1000010 + j)), (2, .int (iI (fr))), (3, .int (iI (x8.1))), (4, .int (iI (x8.2.1 + 1))), (5, .int (iI ((i8 : Int)))), (6, .int (iI (k_ch j ((i8 : Int)).toNat))), (7, .int (iI (1)))]) dX8_reads_156 4 rfl (by decide) rfl rfl ?_
            refine k_iinc (ls' := [(0, .ref 123), (1, .ref (1000010 + j)), (2, .int (iI (fr))), (3, .int (iI (x8.1 + 1))), (4, .int (iI (x8.2.1 + 1))), (5, .int (iI ((i8 : Int)))), (6, .int (iI (k_ch j ((i8 : Int)).toNat))), (7, .int (iI (1)))]) dX8_reads_159 3 rfl (by decide) rfl rfl ?_
            refine k_iinc (ls' := [(0, .ref 123), (1, .ref (1000010 + j)), (2, .int (iI (fr))), (3, .int (iI (x8.1 + 1))), (4, .int (iI (x8.2.1 + 1))), (5, .int (iI ((i8 : Int) + 1))), (6, .int (iI (k_ch j ((i8 : Int)).toNat))), (7, .int (iI (1)))]) dX8_reads_162 5 rfl (by decide) rfl rfl ?_
            refine k_goto (tgt := 8) dX8_reads_165 rfl ?_
            refine k_dropr (ls' := [(0, .ref 123), (1, .ref (1000010 + j)), (2, .int (iI (fr))), (3, .int (iI (x8.1 + 1))), (4, .int (iI (x8.2.1 + 1))), (5, .int (iI ((i8 : Int) + 1)))]) (ex := [(6, .int (iI (k_ch j ((i8 : Int)).toNat))), (7, .int (iI (1)))]) rfl ?_
            have y43 : zb (k_ch j i8 = 68 ∨ k_ch j i8 = 78) = 1 := zb_t (Or.inr h27)
            have y44 := k_nd_s j i8
            exact ih8 ((x8.1 + 1, x8.2.1 + 1, (k_u1 (x8.2.2) (x8.2.1).toNat (((σ 130) (x8.1).toNat) - 48)))) (show ((fr + ((i8 + 1 : Nat) : Int) ≤ x8.1 + 1 ∧ x8.1 + 1 ≤ (σ 123) 28) ∧ x8.2.1 + 1 = k_nd j (i8 + 1)) ∧ (k_rg 0 99 (k_u1 (x8.2.2) (x8.2.1).toNat (((σ 130) (x8.1).toNat) - 48))) from ⟨(by omega), (show k_rg 0 99 (k_u1 (x8.2.2) (x8.2.1).toNat (((σ 130) (x8.1).toNat) - 48)) from (k_rg_u hW8_140 (by omega)))⟩)
          · refine k_ift (F := (fun t => (k_pPB sh (R_reads σ fr)) (k_els (r_reads_8 σ j fr) (k_cn2 (k_for (b_reads_8 σ j fr) n8 (i8 + 1)) t)))) h42 ?_
            refine k_aload_n dX8_reads_116 0 rfl rfl (by decide) ?_
            refine k_iload_n dX8_reads_117 3 rfl rfl ?_
            refine k_iconst (v := 1) dX8_reads_118 rfl ?_
            refine k_iadd dX8_reads_119 ?_
            refine k_callVrP (st := []) (as := [.int (iI ((x8.1) + 1))]) dX8_reads_120 oX8_isDigit w_2262 w_2264 w_82 rfl (by omega) rfl (Nat.le_of_ble_eq_true rfl) (by decide) (s_123 hsh) rfl (c8_isDigit (σ := (k_up σ 140 (k_u1 (x8.2.2) (x8.2.1).toNat (((σ 130) (x8.1).toNat) - 48)))) hsh (by omega) (hMA).1 (hMA).2.2.2.1) (fun z45 => ?_)
            refine k_eqst (st' := [.int (iI (zb (m_isDigit (σ 123) (σ 130) ((x8.1) + 1) = true)))]) rfl ?_
            refine k_if_eq (tgt := 156) dX8_reads_123 rfl (zb_kr _) (fun h46 => ?_) (fun h46 => ?_)
            · have h46 := zb_0.mp h46
              refine k_iff (F := (fun t => (k_pPB sh (R_reads σ fr)) (k_els (r_reads_8 σ j fr) (k_cn2 (k_for (b_reads_8 σ j fr) n8 (i8 + 1)) t)))) h46 ?_
              refine k_iinc (ls' := [(0, .ref 123), (1, .ref (1000010 + j)), (2, .int (iI (fr))), (3, .int (iI (x8.1))), (4, .int (iI (x8.2.1 + 1))), (5, .int (iI ((i8 : Int)))), (6, .int (iI (k_ch j ((i8 : Int)).toNat))), (7, .int (iI (1)))]) dX8_reads_156 4 rfl (by decide) rfl rfl ?_
              refine k_iinc (ls' := [(0, .ref 123), (1, .ref (1000010 + j)), (2, .int (iI (fr))), (3, .int (iI (x8.1 + 1))), (4, .int (iI (x8.2.1 + 1))), (5, .int (iI ((i8 : Int)))), (6, .int (iI (k_ch j ((i8 : Int)).toNat))), (7, .int (iI (1)))]) dX8_reads_159 3 rfl (by decide) rfl rfl ?_
              refine k_iinc (ls' := [(0, .ref 123), (1, .ref (1000010 + j)), (2, .int (iI (fr))), (3, .int (iI (x8.1 + 1))), (4, .int (iI (x8.2.1 + 1))), (5, .int (iI ((i8 : Int) + 1))), (6, .int (iI (k_ch j ((i8 : Int)).toNat))), (7, .int (iI (1)))]) dX8_reads_162 5 rfl (by decide) rfl rfl ?_
              refine k_goto (tgt := 8) dX8_reads_165 rfl ?_
              refine k_dropr (ls' := [(0, .ref 123), (1, .ref (1000010 + j)), (2, .int (iI (fr))), (3, .int (iI (x8.1 + 1))), (4, .int (iI (x8.2.1 + 1))), (5, .int (iI ((i8 : Int) + 1)))]) (ex := [(6, .int (iI (k_ch j ((i8 : Int)).toNat))), (7, .int (iI (1)))]) rfl ?_
              have y47 : zb (k_ch j i8 = 68 ∨ k_ch j i8 = 78) = 1 := zb_t (Or.inr h27)
              have y48 := k_nd_s j i8
              exact ih8 ((x8.1 + 1, x8.2.1 + 1, (k_u1 (x8.2.2) (x8.2.1).toNat (((σ 130) (x8.1).toNat) - 48)))) (show ((fr + ((i8 + 1 : Nat) : Int) ≤ x8.1 + 1 ∧ x8.1 + 1 ≤ (σ 123) 28) ∧ x8.2.1 + 1 = k_nd j (i8 + 1)) ∧ (k_rg 0 99 (k_u1 (x8.2.2) (x8.2.1).toNat (((σ 130) (x8.1).toNat) - 48))) from ⟨(by omega), (show k_rg 0 99 (k_u1 (x8.2.2) (x8.2.1).toNat (((σ 130) (x8.1).toNat) - 48)) from (k_rg_u hW8_140 (by omega)))⟩)
            · have h46 := zb_n0.mp h46
              refine k_ift (F := (fun t => (k_pPB sh (R_reads σ fr)) (k_els (r_reads_8 σ j fr) (k_cn2 (k_for (b_reads_8 σ j fr) n8 (i8 + 1)) t)))) h46 ?_
              have y49 := m_isDigit_t h46
              refine k_iinc (ls' := [(0, .ref 123), (1, .ref (1000010 + j)), (2, .int (iI (fr))), (3, .int (iI (x8.1 + 1))), (4, .int (iI (x8.2.1))), (5, .int (iI ((i8 : Int)))), (6, .int (iI (k_ch j ((i8 : Int)).toNat))), (7, .int (iI (1)))]) dX8_reads_126 3 rfl (by decide) rfl rfl ?_
              refine k_aload_n dX8_reads_129 0 rfl rfl (by decide) ?_
              refine k_get (kf := 27) (v := .ref 140) dX8_reads_130 kcX8 w_1774 (by decide) (by decide) (s_123 hsh) rfl rfl ?_
              refine k_iload dX8_reads_133 4 rfl ?_
              refine k_bipush (v := 10) dX8_reads_135 (by decide) ?_
              refine k_aload_n dX8_reads_137 0 rfl rfl (by decide) ?_
              refine k_get (kf := 27) (v := .ref 140) dX8_reads_138 kcX8 w_1774 (by decide) (by decide) (s_123 hsh) rfl rfl ?_
              refine k_iload dX8_reads_141 4 rfl ?_
              refine k_iald dX8_reads_143 (by decide) (s_140 hsh) (by omega) (by omega) (by decide) ?_
              refine k_eqst (st' := [.int (iI (((σ 130) (x8.1).toNat) - 48)), .int (iI (10)), .int (iI (x8.2.1)), .ref 140]) (congrArg (fun z : Int => Value.int (iI z) :: [.int (iI (10)), .int (iI (x8.2.1)), .ref 140]) (show ((σ 130) (x8.1).toNat) - 48 = (k_u1 (x8.2.2) (x8.2.1).toNat (((σ 130) (x8.1).toNat) - 48)) (x8.2.1).toNat from (k_u1_same).symm)) ?_
              have q50 := (show k_rg 0 99 (k_u1 (x8.2.2) (x8.2.1).toNat (((σ 130) (x8.1).toNat) - 48)) from (k_rg_u hW8_140 (by omega))) (x8.2.1).toNat
              refine k_imul dX8_reads_144 ?_
              refine k_aload_n dX8_reads_145 0 rfl rfl (by decide) ?_
              refine k_get (kf := 14) (v := .ref 130) dX8_reads_146 kcX8 w_1761 (by decide) (by decide) (s_123 hsh) rfl rfl ?_
              refine k_iload_n dX8_reads_149 3 rfl rfl ?_
              refine k_cald dX8_reads_150 (by decide) (s_130 hsh) (by omega) (by omega) (by decide) ?_
              refine k_eqst (st' := [.int (iI ((σ 130) (x8.1 + 1).toNat)), .int (iI (10 * (((σ 130) (x8.1).toNat) - 48))), .int (iI (x8.2.1)), .ref 140]) rfl ?_
              have q51 := (hMA).2.2.2.1 (x8.1 + 1).toNat
              refine k_iadd dX8_reads_151 ?_
              refine k_bipush (v := 48) dX8_reads_152 (by decide) ?_
              refine k_isub dX8_reads_154 ?_
              refine k_iastW dX8_reads_155 (by decide) (s_140 hsh) (by omega) (by omega) (by decide) ?_
              refine k_eqσ (σ' := (k_up σ 140 (k_u1 (k_u1 (x8.2.2) (x8.2.1).toNat (((σ 130) (x8.1).toNat) - 48)) (x8.2.1).toNat (((10 * (((σ 130) (x8.1).toNat) - 48)) + ((σ 130) (x8.1 + 1).toNat)) - 48)))) (show k_up (k_up σ 140 (k_u1 (x8.2.2) (x8.2.1).toNat (((σ 130) (x8.1).toNat) - 48))) 140 (k_u1 (k_u1 (x8.2.2) (x8.2.1).toNat (((σ 130) (x8.1).toNat) - 48)) (x8.2.1).toNat (((10 * (((σ 130) (x8.1).toNat) - 48)) + ((σ 130) (x8.1 + 1).toNat)) - 48)) = _ from k_up_up).symm ?_
              refine k_iinc (ls' := [(0, .ref 123), (1, .ref (1000010 + j)), (2, .int (iI (fr))), (3, .int (iI (x8.1 + 1))), (4, .int (iI (x8.2.1 + 1))), (5, .int (iI ((i8 : Int)))), (6, .int (iI (k_ch j ((i8 : Int)).toNat))), (7, .int (iI (1)))]) dX8_reads_156 4 rfl (by decide) rfl rfl ?_
              refine k_iinc (ls' := [(0, .ref 123), (1, .ref (1000010 + j)), (2, .int (iI (fr))), (3, .int (iI (x8.1 + 1 + 1))), (4, .int (iI (x8.2.1 + 1))), (5, .int (iI ((i8 : Int)))), (6, .int (iI (k_ch j ((i8 : Int)).toNat))), (7, .int (iI (1)))]) dX8_reads_159 3 rfl (by decide) rfl rfl ?_
              refine k_iinc (ls' := [(0, .ref 123), (1, .ref (1000010 + j)), (2, .int (iI (fr))), (3, .int (iI (x8.1 + 1 + 1))), (4, .int (iI (x8.2.1 + 1))), (5, .int (iI ((i8 : Int) + 1))), (6, .int (iI (k_ch j ((i8 : Int)).toNat))), (7, .int (iI (1)))]) dX8_reads_162 5 rfl (by decide) rfl rfl ?_
              refine k_goto (tgt := 8) dX8_reads_165 rfl ?_
              refine k_dropr (ls' := [(0, .ref 123), (1, .ref (1000010 + j)), (2, .int (iI (fr))), (3, .int (iI (x8.1 + 1 + 1))), (4, .int (iI (x8.2.1 + 1))), (5, .int (iI ((i8 : Int) + 1)))]) (ex := [(6, .int (iI (k_ch j ((i8 : Int)).toNat))), (7, .int (iI (1)))]) rfl ?_
              have y52 : zb (k_ch j i8 = 68 ∨ k_ch j i8 = 78) = 1 := zb_t (Or.inr h27)
              have y53 := k_nd_s j i8
              exact ih8 ((x8.1 + 1 + 1, x8.2.1 + 1, (k_u1 (k_u1 (x8.2.2) (x8.2.1).toNat (((σ 130) (x8.1).toNat) - 48)) (x8.2.1).toNat (((10 * (((σ 130) (x8.1).toNat) - 48)) + ((σ 130) (x8.1 + 1).toNat)) - 48)))) (show ((fr + ((i8 + 1 : Nat) : Int) ≤ x8.1 + 1 + 1 ∧ x8.1 + 1 + 1 ≤ (σ 123) 28) ∧ x8.2.1 + 1 = k_nd j (i8 + 1)) ∧ (k_rg 0 99 (k_u1 (k_u1 (x8.2.2) (x8.2.1).toNat (((σ 130) (x8.1).toNat) - 48)) (x8.2.1).toNat (((10 * (((σ 130) (x8.1).toNat) - 48)) + ((σ 130) (x8.1 + 1).toNat)) - 48))) from ⟨(by omega), (show k_rg 0 99 (k_u1 (k_u1 (x8.2.2) (x8.2.1).toNat (((σ 130) (x8.1).toNat) - 48)) (x8.2.1).toNat (((10 * (((σ 130) (x8.1).toNat) - 48)) + ((σ 130) (x8.1 + 1).toNat)) - 48)) from (k_rg_u (show k_rg 0 99 (k_u1 (x8.2.2) (x8.2.1).toNat (((σ 130) (x8.1).toNat) - 48)) from (k_rg_u hW8_140 (by omega))) (by omega)))⟩)
        · have h37 := zb_0.mp h37
          refine k_iff (F := (fun t => (k_pPB sh (R_reads σ fr)) (k_els (r_reads_8 σ j fr) (k_cn2 (k_for (b_reads_8 σ j fr) n8 (i8 + 1)) t)))) h37 ?_
          refine k_goto (tgt := 81) dX8_reads_59 rfl ?_
          refine k_aload_n dX8_reads_81 0 rfl rfl (by decide) ?_
          refine k_iload_n dX8_reads_82 3 rfl rfl ?_
          refine k_putfW (kf := 30) dX8_reads_83 kcX8 w_1777 (by decide) (by decide) (s_123 hsh) rfl rfl rfl rfl ?_
          refine k_eqσ (σ' := (k_up (k_up σ 123 (k_u1 (σ 123) 30 (x8.1))) 140 (x8.2.2))) (show k_up (k_up σ 140 (x8.2.2)) 123 (k_u1 (σ 123) 30 (x8.1)) = _ from (k_up_comm (by decide))).symm ?_
          refine k_iconst (v := 0) dX8_reads_86 rfl ?_
          exact k_retzP dX8_reads_87 rfl (Or.inl rfl) rfl k_lfF (show k_MA (k_up (k_up σ 123 (k_u1 (σ 123) 30 (x8.1))) 140 (x8.2.2)) ∧ (0 ≤ (k_up (k_up σ 123 (k_u1 (σ 123) 30 (x8.1))) 140 (x8.2.2)) 123 30 ∧ (k_up (k_up σ 123 (k_u1 (σ 123) 30 (x8.1))) 140 (x8.2.2)) 123 30 ≤ (k_up (k_up σ 123 (k_u1 (σ 123) 30 (x8.1))) 140 (x8.2.2)) 123 28) ∧ (k_up (k_up σ 123 (k_u1 (σ 123) 30 (x8.1))) 140 (x8.2.2)) 123 28 = σ 123 28 ∧ (k_up (k_up σ 123 (k_u1 (σ 123) 30 (x8.1))) 140 (x8.2.2)) 123 29 = σ 123 29 ∧ (k_up (k_up σ 123 (k_u1 (σ 123) 30 (x8.1))) 140 (x8.2.2)) 137 = σ 137 ∧ (false = true → fr + 5 ≤ (k_up (k_up σ 123 (k_u1 (σ 123) 30 (x8.1))) 140 (x8.2.2)) 123 30) from ⟨⟨(show k_F0 (k_u1 (σ 123) 30 (x8.1)) from (k_F0_u (hMA).1 (by omega))), (hMA).2.1, (hMA).2.2.1, (hMA).2.2.2.1, (hMA).2.2.2.2.1, (hMA).2.2.2.2.2.1, (hMA).2.2.2.2.2.2.1, (hMA).2.2.2.2.2.2.2.1, (hMA).2.2.2.2.2.2.2.2.1, (hMA).2.2.2.2.2.2.2.2.2.1, (hMA).2.2.2.2.2.2.2.2.2.2.1, (hMA).2.2.2.2.2.2.2.2.2.2.2.1, hW8_140⟩, (show 0 ≤ x8.1 ∧ x8.1 ≤ (σ 123) 28 from by omega), rfl, rfl, rfl, fun h => absurd h (by decide)⟩)
abbrev R_parses (t : Int × (Nat → Nat → Int)) : Prop := (-1 ≤ t.1 ∧ t.1 ≤ 60) ∧ k_MA t.2
def r_parses_7 (σ : Nat → Nat → Int) (x7 : Int × (Nat → Nat → Int)) : Int × (Nat → Nat → Int) := (0, x7.2)
def r_parses_90 (σ : Nat → Nat → Int) (i7 : Nat) (x7 : Int × (Nat → Nat → Int)) (x14 : Int × Int × (Nat → Nat → Int)) (x90 : (Nat → Int)) : (Int × (Nat → Nat → Int)) ⊕ (Int × (Nat → Nat → Int)) := if ((x14.2.2 123) 30) = ((x14.2.2 123) 28) then .inl ((-1, (k_up (k_up (k_up x14.2.2 123 (k_u1 (x14.2.2 123) 29 (((x14.2.2 123) 29) + 1))) 138 (k_u1 (x14.2.2 138) ((x14.2.2 123) 29).toNat (x14.1))) 139 x90))) else if ((x14.2.2 130) ((x14.2.2 123) 30).toNat) = 59 then .inr (((x14.2.2 123) 30 + 1, (k_up (k_up (k_up x14.2.2 123 (k_u1 (x14.2.2 123) 29 (((x14.2.2 123) 29) + 1))) 138 (k_u1 (x14.2.2 138) ((x14.2.2 123) 29).toNat (x14.1))) 139 x90))) else .inl (((x14.2.2 123) 30, (k_up (k_up (k_up x14.2.2 123 (k_u1 (x14.2.2 123) 29 (((x14.2.2 123) 29) + 1))) 138 (k_u1 (x14.2.2 138) ((x14.2.2 123) 29).toNat (x14.1))) 139 x90)))
def b_parses_90 (σ : Nat → Nat → Int) (i7 : Nat) (x7 : Int × (Nat → Nat → Int)) (x14 : Int × Int × (Nat → Nat → Int)) (i90 : Nat) (x90 : (Nat → Int)) : (Nat → Int) := (k_u1 x90 ((3 * ((x14.2.2 123) 29)) + ((i90 : Int))).toNat ((x14.2.2 140) ((i90 : Int)).toNat))
def r_parses_14 (σ : Nat → Nat → Int) (i7 : Nat) (x7 : Int × (Nat → Nat → Int)) (x14 : Int × Int × (Nat → Nat → Int)) : (Int × (Nat → Nat → Int)) ⊕ (Int × (Nat → Nat → Int)) := if (x14.1) = (-1) then .inl ((x14.2.1, x14.2.2)) else (r_parses_90 σ i7 x7 x14) (k_it (b_parses_90 σ i7 x7 x14) (3) 0 ((x14.2.2 139)))
def r_parses_90_2 (σ : Nat → Nat → Int) (i7 : Nat) (x7 : Int × (Nat → Nat → Int)) (i14 : Nat) (x14 : Int × Int × (Nat → Nat → Int)) (x90 : (Nat → Int)) : ((Int × (Nat → Nat → Int)) ⊕ (Int × (Nat → Nat → Int))) ⊕ (Int × Int × (Nat → Nat → Int)) := if ((x14.2.2 123) 30) = ((x14.2.2 123) 28) then .inl (.inl ((-1, (k_up (k_up (k_up x14.2.2 123 (k_u1 (x14.2.2 123) 29 (((x14.2.2 123) 29) + 1))) 138 (k_u1 (x14.2.2 138) ((x14.2.2 123) 29).toNat (x14.1))) 139 x90)))) else if ((x14.2.2 130) ((x14.2.2 123) 30).toNat) = 59 then .inl (.inr (((x14.2.2 123) 30 + 1, (k_up (k_up (k_up x14.2.2 123 (k_u1 (x14.2.2 123) 29 (((x14.2.2 123) 29) + 1))) 138 (k_u1 (x14.2.2 138) ((x14.2.2 123) 29).toNat (x14.1))) 139 x90)))) else .inl (.inl (((x14.2.2 123) 30, (k_up (k_up (k_up x14.2.2 123 (k_u1 (x14.2.2 123) 29 (((x14.2.2 123) 29) + 1))) 138 (k_u1 (x14.2.2 138) ((x14.2.2 123) 29).toNat (x14.1))) 139 x90))))
def b_parses_90_2 (σ : Nat → Nat → Int) (i7 : Nat) (x7 : Int × (Nat → Nat → Int)) (i14 : Nat) (x14 : Int × Int × (Nat → Nat → Int)) (i90 : Nat) (x90 : (Nat → Int)) : (Nat → Int) := (k_u1 x90 ((3 * ((x14.2.2 123) 29)) + ((i90 : Int))).toNat ((x14.2.2 140) ((i90 : Int)).toNat))
def b_parses_14 (σ : Nat → Nat → Int) (i7 : Nat) (x7 : Int × (Nat → Nat → Int)) (i14 : Nat) (x14 : Int × Int × (Nat → Nat → Int)) : ((Int × (Nat → Nat → Int)) ⊕ (Int × (Nat → Nat → Int))) ⊕ (Int × Int × (Nat → Nat → Int)) := if (x14.1) = (-1) then if (m_reads x14.2.2 (12 + ((i14 : Int)).toNat) (x7.1)).1 = true then if (((m_reads x14.2.2 (12 + ((i14 : Int)).toNat) (x7.1)).2 123) 30) ≤ (x14.2.1) then .inr (((i14 : Int), x14.2.1, (m_reads x14.2.2 (12 + ((i14 : Int)).toNat) (x7.1)).2)) else .inr (((i14 : Int), ((m_reads x14.2.2 (12 + ((i14 : Int)).toNat) (x7.1)).2 123) 30, (m_reads x14.2.2 (12 + ((i14 : Int)).toNat) (x7.1)).2)) else if (((m_reads x14.2.2 (12 + ((i14 : Int)).toNat) (x7.1)).2 123) 30) ≤ (x14.2.1) then .inr ((x14.1, x14.2.1, (m_reads x14.2.2 (12 + ((i14 : Int)).toNat) (x7.1)).2)) else .inr ((x14.1, ((m_reads x14.2.2 (12 + ((i14 : Int)).toNat) (x7.1)).2 123) 30, (m_reads x14.2.2 (12 + ((i14 : Int)).toNat) (x7.1)).2)) else if (x14.1) = (-1) then .inl (.inl ((x14.2.1, x14.2.2))) else (r_parses_90_2 σ i7 x7 i14 x14) (k_it (b_parses_90_2 σ i7 x7 i14 x14) (3) 0 ((x14.2.2 139)))
def b_parses_7 (σ : Nat → Nat → Int) (i7 : Nat) (x7 : Int × (Nat → Nat → Int)) : (Int × (Nat → Nat → Int)) ⊕ (Int × (Nat → Nat → Int)) := k_els (r_parses_14 σ i7 x7) (k_for (b_parses_14 σ i7 x7) (12) 0 ((-1, x7.1, x7.2)))
def m_parses (σ : Nat → Nat → Int) : Int × (Nat → Nat → Int) := k_els (r_parses_7 σ) (k_for (b_parses_7 σ) (11) 0 ((0, (k_up σ 123 (k_u1 (σ 123) 29 (0))))))
set_option maxRecDepth 100000 in
set_option maxHeartbeats 4000000 in
theorem c8_parses (hsh : k_Main sh) (hMA : k_MA σ) (w_hFo : k_Fo σ)  : k_C E mX8_parses 6 [.ref 123] sh σ 0 0 ((k_pP sh (R_parses)) (m_parses σ)) := by
  refine k_C_of (ls0 := [(0, .ref 123)]) rfl pnX8 (fun v hv => k_cat1 rfl hv) (Nat.le_of_ble_eq_true rfl) rfl ?_
  obtain ⟨⟨t0, t0b⟩, ⟨t1, t1b⟩, ⟨t2, t2b⟩, ⟨t3, t3b⟩, -⟩ := id hMA.2.1
  obtain ⟨⟨f41_0, g41_0⟩, ⟨f41_1, g41_1⟩, ⟨f41_2, g41_2⟩, ⟨f41_3, g41_3⟩, ⟨f41_4, g41_4⟩, ⟨f41_5, g41_5⟩, ⟨f41_6, g41_6⟩, ⟨f41_7, g41_7⟩, ⟨f41_8, g41_8⟩, ⟨f41_9, g41_9⟩, ⟨f41_10, g41_10⟩, ⟨f41_11, g41_11⟩, ⟨f41_12, g41_12⟩, ⟨f41_13, g41_13⟩⟩ := id hMA.1
  unfold m_parses
  refine k_aload_n dX8_parses_0 0 rfl rfl (by decide) ?_
  refine k_iconst (v := 0) dX8_parses_1 rfl ?_
  refine k_putfW (kf := 29) dX8_parses_2 kcX8 w_1776 (by decide) (by decide) (s_123 hsh) rfl rfl rfl rfl ?_
  refine k_eqσ (σ' := (k_up σ 123 (k_u1 (σ 123) 29 (0)))) rfl ?_
  refine k_iconst (v := 0) dX8_parses_5 rfl ?_
  refine k_istore_n (ls' := [(0, .ref 123), (1, .int (iI (0)))]) dX8_parses_6 rfl (by decide) rfl rfl ?_
  refine k_loopR (α := Int × (Nat → Nat → Int)) (P := fun (i7 : Nat) (x7 : Int × (Nat → Nat → Int)) Q => k_V E mX8_parses _ 7 [(0, .ref 123), (1, .int (iI (x7.1)))] [] sh x7.2 _ _ Q) (J := fun (i7 : Nat) (x7 : Int × (Nat → Nat → Int)) => k_MA (x7.2) ∧ k_Fo (x7.2) ∧ (x7.2) 123 29 = (i7 : Int) ∧ 6 * (i7 : Int) ≤ x7.1 ∧ x7.1 ≤ (x7.2) 123 28) (11) (b_parses_7 σ) ((0, (k_up σ 123 (k_u1 (σ 123) 29 (0))))) (F := fun t => (k_pP sh (R_parses)) (k_els (r_parses_7 σ) t)) (show k_MA ((k_up σ 123 (k_u1 (σ 123) 29 (0)))) ∧ k_Fo ((k_up σ 123 (k_u1 (σ 123) 29 (0)))) ∧ ((k_up σ 123 (k_u1 (σ 123) 29 (0)))) 123 29 = ((0 : Nat) : Int) ∧ 6 * ((0 : Nat) : Int) ≤ (0 : Int) ∧ (0 : Int) ≤ ((k_up σ 123 (k_u1 (σ 123) 29 (0)))) 123 28 from ⟨⟨(show k_F0 (k_u1 (σ 123) 29 (0)) from (k_F0_u (hMA).1 (by omega))), (hMA).2.1, (hMA).2.2.1, (hMA).2.2.2.1, (hMA).2.2.2.2.1, (hMA).2.2.2.2.2.1, (hMA).2.2.2.2.2.2.1, (hMA).2.2.2.2.2.2.2.1, (hMA).2.2.2.2.2.2.2.2.1, (hMA).2.2.2.2.2.2.2.2.2.1, (hMA).2.2.2.2.2.2.2.2.2.2.1, (hMA).2.2.2.2.2.2.2.2.2.2.2.1, (hMA).2.2.2.2.2.2.2.2.2.2.2.2⟩, w_hFo, rfl, by decide, (show (0 : Int) ≤ σ 123 28 from by omega)⟩) ?_ ?_
  · intro x7 hJ7
    have hJ7 : k_MA (x7.2) ∧ k_Fo (x7.2) ∧ (x7.2) 123 29 = ((11 : Nat) : Int) ∧ 6 * ((11 : Nat) : Int) ≤ x7.1 ∧ x7.1 ≤ (x7.2) 123 28 := hJ7
    have hU7 := hJ7
    obtain ⟨⟨f2_0, g2_0⟩, ⟨f2_1, g2_1⟩, ⟨f2_2, g2_2⟩, ⟨f2_3, g2_3⟩, ⟨f2_4, g2_4⟩, ⟨f2_5, g2_5⟩, ⟨f2_6, g2_6⟩, ⟨f2_7, g2_7⟩, ⟨f2_8, g2_8⟩, ⟨f2_9, g2_9⟩, ⟨f2_10, g2_10⟩, ⟨f2_11, g2_11⟩, ⟨f2_12, g2_12⟩, ⟨f2_13, g2_13⟩⟩ := id hU7.1.1
    obtain ⟨⟨y3_0, y3_0b⟩, ⟨y3_1, y3_1b⟩, ⟨y3_2, y3_2b⟩, ⟨y3_3, y3_3b⟩, -⟩ := id hU7.1.2.1
    have w_hFo := hU7.2.1
    exfalso
    omega
  · intro n7 i7 x7 hi7 hJ7 ih7
    have hJ7 : k_MA (x7.2) ∧ k_Fo (x7.2) ∧ (x7.2) 123 29 = (i7 : Int) ∧ 6 * (i7 : Int) ≤ x7.1 ∧ x7.1 ≤ (x7.2) 123 28 := hJ7
    have hU7 := hJ7
    obtain ⟨⟨f4_0, g4_0⟩, ⟨f4_1, g4_1⟩, ⟨f4_2, g4_2⟩, ⟨f4_3, g4_3⟩, ⟨f4_4, g4_4⟩, ⟨f4_5, g4_5⟩, ⟨f4_6, g4_6⟩, ⟨f4_7, g4_7⟩, ⟨f4_8, g4_8⟩, ⟨f4_9, g4_9⟩, ⟨f4_10, g4_10⟩, ⟨f4_11, g4_11⟩, ⟨f4_12, g4_12⟩, ⟨f4_13, g4_13⟩⟩ := id hU7.1.1
    obtain ⟨⟨y5_0, y5_0b⟩, ⟨y5_1, y5_1b⟩, ⟨y5_2, y5_2b⟩, ⟨y5_3, y5_3b⟩, -⟩ := id hU7.1.2.1
    have w_hFo := hU7.2.1
    show k_V E mX8_parses _ 7 [(0, .ref 123), (1, .int (iI (x7.1)))] [] sh x7.2 _ _ ((fun t => (k_pP sh (R_parses)) (k_els (r_parses_7 σ) (k_cn2 (k_for (b_parses_7 σ) n7 (i7 + 1)) t))) ((b_parses_7 σ) i7 x7))
    unfold b_parses_7
    refine k_iload_n dX8_parses_7 1 rfl rfl ?_
    refine k_istore_n (ls' := [(0, .ref 123), (1, .int (iI (x7.1))), (2, .int (iI (x7.1)))]) dX8_parses_8 rfl (by decide) rfl rfl ?_
    refine k_iconst (v := (-1)) dX8_parses_9 rfl ?_
    refine k_istore_n (ls' := [(0, .ref 123), (1, .int (iI (x7.1))), (2, .int (iI (x7.1))), (3, .int (iI (-1)))]) dX8_parses_10 rfl (by decide) rfl rfl ?_
    refine k_iconst (v := 0) dX8_parses_11 rfl ?_
    refine k_istore (ls' := [(0, .ref 123), (1, .int (iI (x7.1))), (2, .int (iI (x7.1))), (3, .int (iI (-1))), (4, .int (iI (0)))]) dX8_parses_12 (by decide) rfl rfl ?_
    refine k_loopR (α := Int × Int × (Nat → Nat → Int)) (P := fun (i14 : Nat) (x14 : Int × Int × (Nat → Nat → Int)) Q => k_V E mX8_parses _ 14 [(0, .ref 123), (1, .int (iI (x7.1))), (2, .int (iI (x14.2.1))), (3, .int (iI (x14.1))), (4, .int (iI ((i14 : Int))))] [] sh x14.2.2 _ _ Q) (J := fun (i14 : Nat) (x14 : Int × Int × (Nat → Nat → Int)) => k_MA (x14.2.2) ∧ k_Fo (x14.2.2) ∧ (x14.2.2) 123 29 = x7.2 123 29 ∧ (x14.2.2) 123 28 = x7.2 123 28 ∧ (x7.1 ≤ x14.2.1 ∧ x14.2.1 ≤ x7.2 123 28) ∧ (-1 ≤ x14.1 ∧ x14.1 ≤ 11) ∧ (x14.1 = -1 ∨ (x7.1 + 5 ≤ (x14.2.2) 123 30 ∧ (x14.2.2) 123 30 ≤ x7.2 123 28))) (12) (b_parses_14 σ i7 x7) ((-1, x7.1, x7.2)) (F := fun t => (fun t => (k_pP sh (R_parses)) (k_els (r_parses_7 σ) (k_cn2 (k_for (b_parses_7 σ) n7 (i7 + 1)) t))) (k_els (r_parses_14 σ i7 x7) t)) (show k_MA (x7.2) ∧ k_Fo (x7.2) ∧ (x7.2) 123 29 = x7.2 123 29 ∧ (x7.2) 123 28 = x7.2 123 28 ∧ (x7.1 ≤ x7.1 ∧ x7.1 ≤ x7.2 123 28) ∧ (-1 ≤ (-1 : Int) ∧ (-1 : Int) ≤ 11) ∧ ((-1 : Int) = -1 ∨ (x7.1 + 5 ≤ (x7.2) 123 30 ∧ (x7.2) 123 30 ≤ x7.2 123 28)) from ⟨⟨(hU7.1).1, (hU7.1).2.1, (hU7.1).2.2.1, (hU7.1).2.2.2.1, (hU7.1).2.2.2.2.1, (hU7.1).2.2.2.2.2.1, (hU7.1).2.2.2.2.2.2.1, (hU7.1).2.2.2.2.2.2.2.1, (hU7.1).2.2.2.2.2.2.2.2.1, (hU7.1).2.2.2.2.2.2.2.2.2.1, (hU7.1).2.2.2.2.2.2.2.2.2.2.1, (hU7.1).2.2.2.2.2.2.2.2.2.2.2.1, (hU7.1).2.2.2.2.2.2.2.2.2.2.2.2⟩, w_hFo, rfl, rfl, by omega⟩) ?_ ?_
    · intro x14 hJ14
      have hJ14 : k_MA (x14.2.2) ∧ k_Fo (x14.2.2) ∧ (x14.2.2) 123 29 = x7.2 123 29 ∧ (x14.2.2) 123 28 = x7.2 123 28 ∧ (x7.1 ≤ x14.2.1 ∧ x14.2.1 ≤ x7.2 123 28) ∧ (-1 ≤ x14.1 ∧ x14.1 ≤ 11) ∧ (x14.1 = -1 ∨ (x7.1 + 5 ≤ (x14.2.2) 123 30 ∧ (x14.2.2) 123 30 ≤ x7.2 123 28)) := hJ14
      have hU14 := hJ14
      obtain ⟨⟨f7_0, g7_0⟩, ⟨f7_1, g7_1⟩, ⟨f7_2, g7_2⟩, ⟨f7_3, g7_3⟩, ⟨f7_4, g7_4⟩, ⟨f7_5, g7_5⟩, ⟨f7_6, g7_6⟩, ⟨f7_7, g7_7⟩, ⟨f7_8, g7_8⟩, ⟨f7_9, g7_9⟩, ⟨f7_10, g7_10⟩, ⟨f7_11, g7_11⟩, ⟨f7_12, g7_12⟩, ⟨f7_13, g7_13⟩⟩ := id hU14.1.1
      obtain ⟨⟨y8_0, y8_0b⟩, ⟨y8_1, y8_1b⟩, ⟨y8_2, y8_2b⟩, ⟨y8_3, y8_3b⟩, -⟩ := id hU14.1.2.1
      have w_hFo := hU14.2.1
      show k_V E mX8_parses _ 14 [(0, .ref 123), (1, .int (iI (x7.1))), (2, .int (iI (x14.2.1))), (3, .int (iI (x14.1))), (4, .int (iI (((12 : Nat) : Int))))] [] sh x14.2.2 _ _ ((fun t => (k_pP sh (R_parses)) (k_els (r_parses_7 σ) (k_cn2 (k_for (b_parses_7 σ) n7 (i7 + 1)) t))) ((r_parses_14 σ i7 x7) x14))
      unfold r_parses_14
      refine k_iload dX8_parses_14 4 rfl ?_
      refine k_aload_n dX8_parses_16 0 rfl rfl (by decide) ?_
      refine k_get (kf := 24) (v := .ref 137) dX8_parses_17 kcX8 w_1771 (by decide) (by decide) (s_123 hsh) rfl rfl ?_
      refine k_alen dX8_parses_20 (by decide) (s_137 hsh) (by decide) ?_
      refine k_icmp_ge (tgt := 70) dX8_parses_21 rfl ⟨by omega, by omega⟩ ⟨by decide, by decide⟩ (fun h9 => ?_) (fun h9 => absurd h9 (by omega))
      refine k_iload_n dX8_parses_70 3 rfl rfl ?_
      refine k_iconst (v := (-1)) dX8_parses_71 rfl ?_
      refine k_icmp_ne (tgt := 77) dX8_parses_72 rfl ⟨by omega, by omega⟩ ⟨by decide, by decide⟩ (fun h10 => ?_) (fun h10 => ?_)
      · refine k_iff (F := (fun t => (k_pP sh (R_parses)) (k_els (r_parses_7 σ) (k_cn2 (k_for (b_parses_7 σ) n7 (i7 + 1)) t)))) h10 ?_
        refine k_aload_n dX8_parses_77 0 rfl rfl (by decide) ?_
        refine k_get (kf := 25) (v := .ref 138) dX8_parses_78 kcX8 w_1772 (by decide) (by decide) (s_123 hsh) rfl rfl ?_
        refine k_aload_n dX8_parses_81 0 rfl rfl (by decide) ?_
        refine k_get (kf := 29) (v := .int (iI ((x14.2.2 123) 29))) dX8_parses_82 kcX8 w_1776 (by decide) (by decide) (s_123 hsh) rfl rfl ?_
        refine k_iload_n dX8_parses_85 3 rfl rfl ?_
        refine k_iastW dX8_parses_86 (by decide) (s_138 hsh) (by omega) (by omega) (by decide) ?_
        refine k_eqσ (σ' := (k_up x14.2.2 138 (k_u1 (x14.2.2 138) ((x14.2.2 123) 29).toNat (x14.1)))) rfl ?_
        refine k_iconst (v := 0) dX8_parses_87 rfl ?_
        refine k_istore (ls' := [(0, .ref 123), (1, .int (iI (x7.1))), (2, .int (iI (x14.2.1))), (3, .int (iI (x14.1))), (4, .int (iI (0)))]) dX8_parses_88 (by decide) rfl rfl ?_
        refine k_eqσ (σ' := (k_up (k_up x14.2.2 138 (k_u1 (x14.2.2 138) ((x14.2.2 123) 29).toNat (x14.1))) 139 (x14.2.2 139))) ((show k_up (k_up x14.2.2 138 (k_u1 (x14.2.2 138) ((x14.2.2 123) 29).toNat (x14.1))) 139 (x14.2.2 139) = (k_up (k_up x14.2.2 138 (k_u1 (x14.2.2 138) ((x14.2.2 123) 29).toNat (x14.1))) 139 (x14.2.2 139)) from rfl).symm.trans (k_up_self _ _)) ?_
        refine k_loop (α := (Nat → Int)) (P := fun (i90 : Nat) (x90 : (Nat → Int)) Q => k_V E mX8_parses _ 90 [(0, .ref 123), (1, .int (iI (x7.1))), (2, .int (iI (x14.2.1))), (3, .int (iI (x14.1))), (4, .int (iI ((i90 : Int))))] [] sh (k_up (k_up x14.2.2 138 (k_u1 (x14.2.2 138) ((x14.2.2 123) 29).toNat (x14.1))) 139 x90) _ _ Q) (J := fun (i90 : Nat) (x90 : (Nat → Int)) => (k_rg 0 99 x90)) (3) (b_parses_90 σ i7 x7 x14) ((x14.2.2 139)) (F := fun t => (fun t => (k_pP sh (R_parses)) (k_els (r_parses_7 σ) (k_cn2 (k_for (b_parses_7 σ) n7 (i7 + 1)) t))) ((r_parses_90 σ i7 x7 x14) t)) (show (k_rg 0 99 (x14.2.2 139)) from (hU14.1).2.2.2.2.2.2.2.2.2.2.2.1) ?_ ?_
        · intro x90 hJ90
          have hJ90 : (k_rg 0 99 x90) := hJ90
          have hW90_139 := hJ90
          show k_V E mX8_parses _ 90 [(0, .ref 123), (1, .int (iI (x7.1))), (2, .int (iI (x14.2.1))), (3, .int (iI (x14.1))), (4, .int (iI (((3 : Nat) : Int))))] [] sh (k_up (k_up x14.2.2 138 (k_u1 (x14.2.2 138) ((x14.2.2 123) 29).toNat (x14.1))) 139 x90) _ _ ((fun t => (k_pP sh (R_parses)) (k_els (r_parses_7 σ) (k_cn2 (k_for (b_parses_7 σ) n7 (i7 + 1)) t))) ((r_parses_90 σ i7 x7 x14) x90))
          unfold r_parses_90
          refine k_iload dX8_parses_90 4 rfl ?_
          refine k_iconst (v := 3) dX8_parses_92 rfl ?_
          refine k_icmp_ge (tgt := 123) dX8_parses_93 rfl ⟨by omega, by omega⟩ ⟨by decide, by decide⟩ (fun h12 => ?_) (fun h12 => absurd h12 (by omega))
          refine k_aload_n dX8_parses_123 0 rfl rfl (by decide) ?_
          refine k_dup dX8_parses_124 rfl ?_
          refine k_get (kf := 29) (v := .int (iI ((x14.2.2 123) 29))) dX8_parses_125 kcX8 w_1776 (by decide) (by decide) (s_123 hsh) rfl rfl ?_
          refine k_iconst (v := 1) dX8_parses_128 rfl ?_
          refine k_iadd dX8_parses_129 ?_
          refine k_putfW (kf := 29) dX8_parses_130 kcX8 w_1776 (by decide) (by decide) (s_123 hsh) rfl rfl rfl rfl ?_
          refine k_eqσ (σ' := (k_up (k_up (k_up x14.2.2 123 (k_u1 (x14.2.2 123) 29 (((x14.2.2 123) 29) + 1))) 138 (k_u1 (x14.2.2 138) ((x14.2.2 123) 29).toNat (x14.1))) 139 x90)) (show k_up (k_up (k_up x14.2.2 138 (k_u1 (x14.2.2 138) ((x14.2.2 123) 29).toNat (x14.1))) 139 x90) 123 (k_u1 (x14.2.2 123) 29 (((x14.2.2 123) 29) + 1)) = _ from ((k_up_comm (by decide)).trans (congrArg (fun s => k_up s 139 _) (k_up_comm (by decide))))).symm ?_
          refine k_aload_n dX8_parses_133 0 rfl rfl (by decide) ?_
          refine k_get (kf := 30) (v := .int (iI ((x14.2.2 123) 30))) dX8_parses_134 kcX8 w_1777 (by decide) (by decide) (s_123 hsh) rfl rfl ?_
          refine k_istore_n (ls' := [(0, .ref 123), (1, .int (iI ((x14.2.2 123) 30))), (2, .int (iI (x14.2.1))), (3, .int (iI (x14.1))), (4, .int (iI (((3 : Nat) : Int))))]) dX8_parses_137 rfl (by decide) rfl rfl ?_
          refine k_iload_n dX8_parses_138 1 rfl rfl ?_
          refine k_aload_n dX8_parses_139 0 rfl rfl (by decide) ?_
          refine k_get (kf := 28) (v := .int (iI ((x14.2.2 123) 28))) dX8_parses_140 kcX8 w_1775 (by decide) (by decide) (s_123 hsh) rfl rfl ?_
          refine k_icmp_ne (tgt := 148) dX8_parses_143 rfl ⟨by omega, by omega⟩ ⟨by omega, by omega⟩ (fun h13 => ?_) (fun h13 => ?_)
          · refine k_iff (F := (fun t => (k_pP sh (R_parses)) (k_els (r_parses_7 σ) (k_cn2 (k_for (b_parses_7 σ) n7 (i7 + 1)) t)))) h13 ?_
            refine k_aload_n dX8_parses_148 0 rfl rfl (by decide) ?_
            refine k_get (kf := 14) (v := .ref 130) dX8_parses_149 kcX8 w_1761 (by decide) (by decide) (s_123 hsh) rfl rfl ?_
            refine k_iload_n dX8_parses_152 1 rfl rfl ?_
            refine k_cald dX8_parses_153 (by decide) (s_130 hsh) (by omega) (by omega) (by decide) ?_
            refine k_eqst (st' := [.int (iI ((x14.2.2 130) ((x14.2.2 123) 30).toNat))]) rfl ?_
            have q14 := (hU14.1).2.2.2.1 ((x14.2.2 123) 30).toNat
            refine k_bipush (v := 59) dX8_parses_154 (by decide) ?_
            refine k_icmp_eq (tgt := 161) dX8_parses_156 rfl ⟨by omega, by omega⟩ ⟨by decide, by decide⟩ (fun h15 => ?_) (fun h15 => ?_)
            · refine k_ift (F := (fun t => (k_pP sh (R_parses)) (k_els (r_parses_7 σ) (k_cn2 (k_for (b_parses_7 σ) n7 (i7 + 1)) t)))) h15 ?_
              refine k_iinc (ls' := [(0, .ref 123), (1, .int (iI ((x14.2.2 123) 30 + 1))), (2, .int (iI (x14.2.1))), (3, .int (iI (x14.1))), (4, .int (iI (((3 : Nat) : Int))))]) dX8_parses_161 1 rfl (by decide) rfl rfl ?_
              refine k_goto (tgt := 7) dX8_parses_164 rfl ?_
              refine k_dropr (ls' := [(0, .ref 123), (1, .int (iI ((x14.2.2 123) 30 + 1)))]) (ex := [(2, .int (iI (x14.2.1))), (3, .int (iI (x14.1))), (4, .int (iI (((3 : Nat) : Int))))]) rfl ?_
              exact ih7 (((x14.2.2 123) 30 + 1, (k_up (k_up (k_up x14.2.2 123 (k_u1 (x14.2.2 123) 29 (((x14.2.2 123) 29) + 1))) 138 (k_u1 (x14.2.2 138) ((x14.2.2 123) 29).toNat (x14.1))) 139 x90))) (show k_MA ((k_up (k_up (k_up x14.2.2 123 (k_u1 (x14.2.2 123) 29 (((x14.2.2 123) 29) + 1))) 138 (k_u1 (x14.2.2 138) ((x14.2.2 123) 29).toNat (x14.1))) 139 x90)) ∧ k_Fo ((k_up (k_up (k_up x14.2.2 123 (k_u1 (x14.2.2 123) 29 (((x14.2.2 123) 29) + 1))) 138 (k_u1 (x14.2.2 138) ((x14.2.2 123) 29).toNat (x14.1))) 139 x90)) ∧ ((k_up (k_up (k_up x14.2.2 123 (k_u1 (x14.2.2 123) 29 (((x14.2.2 123) 29) + 1))) 138 (k_u1 (x14.2.2 138) ((x14.2.2 123) 29).toNat (x14.1))) 139 x90)) 123 29 = ((i7 + 1 : Nat) : Int) ∧ 6 * ((i7 + 1 : Nat) : Int) ≤ (x14.2.2 123) 30 + 1 ∧ (x14.2.2 123) 30 + 1 ≤ ((k_up (k_up (k_up x14.2.2 123 (k_u1 (x14.2.2 123) 29 (((x14.2.2 123) 29) + 1))) 138 (k_u1 (x14.2.2 138) ((x14.2.2 123) 29).toNat (x14.1))) 139 x90)) 123 28 from ⟨⟨(show k_F0 (k_u1 (x14.2.2 123) 29 (((x14.2.2 123) 29) + 1)) from (k_F0_u (hU14.1).1 (by omega))), (hU14.1).2.1, (hU14.1).2.2.1, (hU14.1).2.2.2.1, (hU14.1).2.2.2.2.1, (hU14.1).2.2.2.2.2.1, (hU14.1).2.2.2.2.2.2.1, (hU14.1).2.2.2.2.2.2.2.1, (hU14.1).2.2.2.2.2.2.2.2.1, (hU14.1).2.2.2.2.2.2.2.2.2.1, (show k_rg 0 11 (k_u1 (x14.2.2 138) ((x14.2.2 123) 29).toNat (x14.1)) from (k_rg_u (hU14.1).2.2.2.2.2.2.2.2.2.2.1 (by omega))), hW90_139, (hU14.1).2.2.2.2.2.2.2.2.2.2.2.2⟩, k_Fo_of rfl w_hFo, (show ((x14.2.2 123) 29) + 1 = ((i7 + 1 : Nat) : Int) from by omega), (show 6 * ((i7 + 1 : Nat) : Int) ≤ (x14.2.2 123) 30 + 1 ∧ (x14.2.2 123) 30 + 1 ≤ (x14.2.2 123) 28 from by omega)⟩)
            · refine k_iff (F := (fun t => (k_pP sh (R_parses)) (k_els (r_parses_7 σ) (k_cn2 (k_for (b_parses_7 σ) n7 (i7 + 1)) t)))) h15 ?_
              refine k_iload_n dX8_parses_159 1 rfl rfl ?_
              exact k_retiP dX8_parses_160 rfl rfl rfl (show (-1 ≤ (x14.2.2 123) 30 ∧ (x14.2.2 123) 30 ≤ 60) ∧ k_MA (k_up (k_up (k_up x14.2.2 123 (k_u1 (x14.2.2 123) 29 (((x14.2.2 123) 29) + 1))) 138 (k_u1 (x14.2.2 138) ((x14.2.2 123) 29).toNat (x14.1))) 139 x90) from ⟨by omega, ⟨(show k_F0 (k_u1 (x14.2.2 123) 29 (((x14.2.2 123) 29) + 1)) from (k_F0_u (hU14.1).1 (by omega))), (hU14.1).2.1, (hU14.1).2.2.1, (hU14.1).2.2.2.1, (hU14.1).2.2.2.2.1, (hU14.1).2.2.2.2.2.1, (hU14.1).2.2.2.2.2.2.1, (hU14.1).2.2.2.2.2.2.2.1, (hU14.1).2.2.2.2.2.2.2.2.1, (hU14.1).2.2.2.2.2.2.2.2.2.1, (show k_rg 0 11 (k_u1 (x14.2.2 138) ((x14.2.2 123) 29).toNat (x14.1)) from (k_rg_u (hU14.1).2.2.2.2.2.2.2.2.2.2.1 (by omega))), hW90_139, (hU14.1).2.2.2.2.2.2.2.2.2.2.2.2⟩⟩)
          · refine k_ift (F := (fun t => (k_pP sh (R_parses)) (k_els (r_parses_7 σ) (k_cn2 (k_for (b_parses_7 σ) n7 (i7 + 1)) t)))) h13 ?_
            refine k_iconst (v := (-1)) dX8_parses_146 rfl ?_
            exact k_retiP dX8_parses_147 rfl rfl rfl (show (-1 ≤ (-1 : Int) ∧ (-1 : Int) ≤ 60) ∧ k_MA (k_up (k_up (k_up x14.2.2 123 (k_u1 (x14.2.2 123) 29 (((x14.2.2 123) 29) + 1))) 138 (k_u1 (x14.2.2 138) ((x14.2.2 123) 29).toNat (x14.1))) 139 x90) from ⟨by omega, ⟨(show k_F0 (k_u1 (x14.2.2 123) 29 (((x14.2.2 123) 29) + 1)) from (k_F0_u (hU14.1).1 (by omega))), (hU14.1).2.1, (hU14.1).2.2.1, (hU14.1).2.2.2.1, (hU14.1).2.2.2.2.1, (hU14.1).2.2.2.2.2.1, (hU14.1).2.2.2.2.2.2.1, (hU14.1).2.2.2.2.2.2.2.1, (hU14.1).2.2.2.2.2.2.2.2.1, (hU14.1).2.2.2.2.2.2.2.2.2.1, (show k_rg 0 11 (k_u1 (x14.2.2 138) ((x14.2.2 123) 29).toNat (x14.1)) from (k_rg_u (hU14.1).2.2.2.2.2.2.2.2.2.2.1 (by omega))), hW90_139, (hU14.1).2.2.2.2.2.2.2.2.2.2.2.2⟩⟩)
        · intro n90 i90 x90 hi90 hJ90 ih90
          have hJ90 : (k_rg 0 99 x90) := hJ90
          have hW90_139 := hJ90
          show k_V E mX8_parses _ 90 [(0, .ref 123), (1, .int (iI (x7.1))), (2, .int (iI (x14.2.1))), (3, .int (iI (x14.1))), (4, .int (iI ((i90 : Int))))] [] sh (k_up (k_up x14.2.2 138 (k_u1 (x14.2.2 138) ((x14.2.2 123) 29).toNat (x14.1))) 139 x90) _ _ ((fun t => (fun t => (k_pP sh (R_parses)) (k_els (r_parses_7 σ) (k_cn2 (k_for (b_parses_7 σ) n7 (i7 + 1)) t))) ((r_parses_90 σ i7 x7 x14) (k_it (b_parses_90 σ i7 x7 x14) n90 (i90 + 1) t))) ((b_parses_90 σ i7 x7 x14) i90 x90))
          unfold b_parses_90
          refine k_iload dX8_parses_90 4 rfl ?_
          refine k_iconst (v := 3) dX8_parses_92 rfl ?_
          refine k_icmp_ge (tgt := 123) dX8_parses_93 rfl ⟨by omega, by omega⟩ ⟨by decide, by decide⟩ (fun h16 => absurd h16 (by omega)) (fun h16 => ?_)
          refine k_aload_n dX8_parses_96 0 rfl rfl (by decide) ?_
          refine k_get (kf := 26) (v := .ref 139) dX8_parses_97 kcX8 w_1773 (by decide) (by decide) (s_123 hsh) rfl rfl ?_
          refine k_iconst (v := 3) dX8_parses_100 rfl ?_
          refine k_aload_n dX8_parses_101 0 rfl rfl (by decide) ?_
          refine k_get (kf := 29) (v := .int (iI ((x14.2.2 123) 29))) dX8_parses_102 kcX8 w_1776 (by decide) (by decide) (s_123 hsh) rfl rfl ?_
          refine k_imul dX8_parses_105 ?_
          refine k_iload dX8_parses_106 4 rfl ?_
          refine k_iadd dX8_parses_108 ?_
          refine k_aload_n dX8_parses_109 0 rfl rfl (by decide) ?_
          refine k_get (kf := 27) (v := .ref 140) dX8_parses_110 kcX8 w_1774 (by decide) (by decide) (s_123 hsh) rfl rfl ?_
          refine k_iload dX8_parses_113 4 rfl ?_
          refine k_iald dX8_parses_115 (by decide) (s_140 hsh) (by omega) (by omega) (by decide) ?_
          refine k_eqst (st' := [.int (iI ((x14.2.2 140) ((i90 : Int)).toNat)), .int (iI ((3 * ((x14.2.2 123) 29)) + ((i90 : Int)))), .ref 139]) rfl ?_
          have q17 := (hU14.1).2.2.2.2.2.2.2.2.2.2.2.2 ((i90 : Int)).toNat
          refine k_iastW dX8_parses_116 (by decide) (s_139 hsh) (by omega) (by omega) (by decide) ?_
          refine k_eqσ (σ' := (k_up (k_up x14.2.2 138 (k_u1 (x14.2.2 138) ((x14.2.2 123) 29).toNat (x14.1))) 139 (k_u1 x90 ((3 * ((x14.2.2 123) 29)) + ((i90 : Int))).toNat ((x14.2.2 140) ((i90 : Int)).toNat)))) (show k_up (k_up (k_up x14.2.2 138 (k_u1 (x14.2.2 138) ((x14.2.2 123) 29).toNat (x14.1))) 139 x90) 139 (k_u1 x90 ((3 * ((x14.2.2 123) 29)) + ((i90 : Int))).toNat ((x14.2.2 140) ((i90 : Int)).toNat)) = _ from k_up_up).symm ?_
          refine k_iinc (ls' := [(0, .ref 123), (1, .int (iI (x7.1))), (2, .int (iI (x14.2.1))), (3, .int (iI (x14.1))), (4, .int (iI ((i90 : Int) + 1)))]) dX8_parses_117 4 rfl (by decide) rfl rfl ?_
          refine k_goto (tgt := 90) dX8_parses_120 rfl ?_
          exact ih90 ((k_u1 x90 ((3 * ((x14.2.2 123) 29)) + ((i90 : Int))).toNat ((x14.2.2 140) ((i90 : Int)).toNat))) (show (k_rg 0 99 (k_u1 x90 ((3 * ((x14.2.2 123) 29)) + ((i90 : Int))).toNat ((x14.2.2 140) ((i90 : Int)).toNat))) from (show k_rg 0 99 (k_u1 x90 ((3 * ((x14.2.2 123) 29)) + ((i90 : Int))).toNat ((x14.2.2 140) ((i90 : Int)).toNat)) from (k_rg_u hW90_139 (by omega))))
      · refine k_ift (F := (fun t => (k_pP sh (R_parses)) (k_els (r_parses_7 σ) (k_cn2 (k_for (b_parses_7 σ) n7 (i7 + 1)) t)))) h10 ?_
        refine k_iload_n dX8_parses_75 2 rfl rfl ?_
        exact k_retiP dX8_parses_76 rfl rfl rfl (show (-1 ≤ x14.2.1 ∧ x14.2.1 ≤ 60) ∧ k_MA x14.2.2 from ⟨by omega, ⟨(hU14.1).1, (hU14.1).2.1, (hU14.1).2.2.1, (hU14.1).2.2.2.1, (hU14.1).2.2.2.2.1, (hU14.1).2.2.2.2.2.1, (hU14.1).2.2.2.2.2.2.1, (hU14.1).2.2.2.2.2.2.2.1, (hU14.1).2.2.2.2.2.2.2.2.1, (hU14.1).2.2.2.2.2.2.2.2.2.1, (hU14.1).2.2.2.2.2.2.2.2.2.2.1, (hU14.1).2.2.2.2.2.2.2.2.2.2.2.1, (hU14.1).2.2.2.2.2.2.2.2.2.2.2.2⟩⟩)
    · intro n14 i14 x14 hi14 hJ14 ih14
      have hJ14 : k_MA (x14.2.2) ∧ k_Fo (x14.2.2) ∧ (x14.2.2) 123 29 = x7.2 123 29 ∧ (x14.2.2) 123 28 = x7.2 123 28 ∧ (x7.1 ≤ x14.2.1 ∧ x14.2.1 ≤ x7.2 123 28) ∧ (-1 ≤ x14.1 ∧ x14.1 ≤ 11) ∧ (x14.1 = -1 ∨ (x7.1 + 5 ≤ (x14.2.2) 123 30 ∧ (x14.2.2) 123 30 ≤ x7.2 123 28)) := hJ14
      have hU14 := hJ14
      obtain ⟨⟨f18_0, g18_0⟩, ⟨f18_1, g18_1⟩, ⟨f18_2, g18_2⟩, ⟨f18_3, g18_3⟩, ⟨f18_4, g18_4⟩, ⟨f18_5, g18_5⟩, ⟨f18_6, g18_6⟩, ⟨f18_7, g18_7⟩, ⟨f18_8, g18_8⟩, ⟨f18_9, g18_9⟩, ⟨f18_10, g18_10⟩, ⟨f18_11, g18_11⟩, ⟨f18_12, g18_12⟩, ⟨f18_13, g18_13⟩⟩ := id hU14.1.1
      obtain ⟨⟨y19_0, y19_0b⟩, ⟨y19_1, y19_1b⟩, ⟨y19_2, y19_2b⟩, ⟨y19_3, y19_3b⟩, -⟩ := id hU14.1.2.1
      have w_hFo := hU14.2.1
      show k_V E mX8_parses _ 14 [(0, .ref 123), (1, .int (iI (x7.1))), (2, .int (iI (x14.2.1))), (3, .int (iI (x14.1))), (4, .int (iI ((i14 : Int))))] [] sh x14.2.2 _ _ ((fun t => (fun t => (k_pP sh (R_parses)) (k_els (r_parses_7 σ) (k_cn2 (k_for (b_parses_7 σ) n7 (i7 + 1)) t))) (k_els (r_parses_14 σ i7 x7) (k_cn2 (k_for (b_parses_14 σ i7 x7) n14 (i14 + 1)) t))) ((b_parses_14 σ i7 x7) i14 x14))
      unfold b_parses_14
      refine k_iload dX8_parses_14 4 rfl ?_
      refine k_aload_n dX8_parses_16 0 rfl rfl (by decide) ?_
      refine k_get (kf := 24) (v := .ref 137) dX8_parses_17 kcX8 w_1771 (by decide) (by decide) (s_123 hsh) rfl rfl ?_
      refine k_alen dX8_parses_20 (by decide) (s_137 hsh) (by decide) ?_
      refine k_icmp_ge (tgt := 70) dX8_parses_21 rfl ⟨by omega, by omega⟩ ⟨by decide, by decide⟩ (fun h20 => absurd h20 (by omega)) (fun h20 => ?_)
      refine k_iload_n dX8_parses_24 3 rfl rfl ?_
      refine k_iconst (v := (-1)) dX8_parses_25 rfl ?_
      refine k_icmp_ne (tgt := 70) dX8_parses_26 rfl ⟨by omega, by omega⟩ ⟨by decide, by decide⟩ (fun h21 => ?_) (fun h21 => ?_)
      · refine k_iff (F := (fun t => (fun t => (k_pP sh (R_parses)) (k_els (r_parses_7 σ) (k_cn2 (k_for (b_parses_7 σ) n7 (i7 + 1)) t))) (k_els (r_parses_14 σ i7 x7) (k_cn2 (k_for (b_parses_14 σ i7 x7) n14 (i14 + 1)) t)))) h21 ?_
        refine k_iload_n dX8_parses_70 3 rfl rfl ?_
        refine k_iconst (v := (-1)) dX8_parses_71 rfl ?_
        refine k_icmp_ne (tgt := 77) dX8_parses_72 rfl ⟨by omega, by omega⟩ ⟨by decide, by decide⟩ (fun h22 => ?_) (fun h22 => ?_)
        · refine k_iff (F := (fun t => (fun t => (k_pP sh (R_parses)) (k_els (r_parses_7 σ) (k_cn2 (k_for (b_parses_7 σ) n7 (i7 + 1)) t))) (k_els (r_parses_14 σ i7 x7) (k_cn2 (k_for (b_parses_14 σ i7 x7) n14 (i14 + 1)) t)))) h22 ?_
          refine k_aload_n dX8_parses_77 0 rfl rfl (by decide) ?_
          refine k_get (kf := 25) (v := .ref 138) dX8_parses_78 kcX8 w_1772 (by decide) (by decide) (s_123 hsh) rfl rfl ?_
          refine k_aload_n dX8_parses_81 0 rfl rfl (by decide) ?_
          refine k_get (kf := 29) (v := .int (iI ((x14.2.2 123) 29))) dX8_parses_82 kcX8 w_1776 (by decide) (by decide) (s_123 hsh) rfl rfl ?_
          refine k_iload_n dX8_parses_85 3 rfl rfl ?_
          refine k_iastW dX8_parses_86 (by decide) (s_138 hsh) (by omega) (by omega) (by decide) ?_
          refine k_eqσ (σ' := (k_up x14.2.2 138 (k_u1 (x14.2.2 138) ((x14.2.2 123) 29).toNat (x14.1)))) rfl ?_
          refine k_iconst (v := 0) dX8_parses_87 rfl ?_
          refine k_istore (ls' := [(0, .ref 123), (1, .int (iI (x7.1))), (2, .int (iI (x14.2.1))), (3, .int (iI (x14.1))), (4, .int (iI (0)))]) dX8_parses_88 (by decide) rfl rfl ?_
          refine k_eqσ (σ' := (k_up (k_up x14.2.2 138 (k_u1 (x14.2.2 138) ((x14.2.2 123) 29).toNat (x14.1))) 139 (x14.2.2 139))) ((show k_up (k_up x14.2.2 138 (k_u1 (x14.2.2 138) ((x14.2.2 123) 29).toNat (x14.1))) 139 (x14.2.2 139) = (k_up (k_up x14.2.2 138 (k_u1 (x14.2.2 138) ((x14.2.2 123) 29).toNat (x14.1))) 139 (x14.2.2 139)) from rfl).symm.trans (k_up_self _ _)) ?_
          refine k_loop (α := (Nat → Int)) (P := fun (i90 : Nat) (x90 : (Nat → Int)) Q => k_V E mX8_parses _ 90 [(0, .ref 123), (1, .int (iI (x7.1))), (2, .int (iI (x14.2.1))), (3, .int (iI (x14.1))), (4, .int (iI ((i90 : Int))))] [] sh (k_up (k_up x14.2.2 138 (k_u1 (x14.2.2 138) ((x14.2.2 123) 29).toNat (x14.1))) 139 x90) _ _ Q) (J := fun (i90 : Nat) (x90 : (Nat → Int)) => (k_rg 0 99 x90)) (3) (b_parses_90_2 σ i7 x7 i14 x14) ((x14.2.2 139)) (F := fun t => (fun t => (fun t => (k_pP sh (R_parses)) (k_els (r_parses_7 σ) (k_cn2 (k_for (b_parses_7 σ) n7 (i7 + 1)) t))) (k_els (r_parses_14 σ i7 x7) (k_cn2 (k_for (b_parses_14 σ i7 x7) n14 (i14 + 1)) t))) ((r_parses_90_2 σ i7 x7 i14 x14) t)) (show (k_rg 0 99 (x14.2.2 139)) from (hU14.1).2.2.2.2.2.2.2.2.2.2.2.1) ?_ ?_
          · intro x90 hJ90
            have hJ90 : (k_rg 0 99 x90) := hJ90
            have hW90_139 := hJ90
            show k_V E mX8_parses _ 90 [(0, .ref 123), (1, .int (iI (x7.1))), (2, .int (iI (x14.2.1))), (3, .int (iI (x14.1))), (4, .int (iI (((3 : Nat) : Int))))] [] sh (k_up (k_up x14.2.2 138 (k_u1 (x14.2.2 138) ((x14.2.2 123) 29).toNat (x14.1))) 139 x90) _ _ ((fun t => (fun t => (k_pP sh (R_parses)) (k_els (r_parses_7 σ) (k_cn2 (k_for (b_parses_7 σ) n7 (i7 + 1)) t))) (k_els (r_parses_14 σ i7 x7) (k_cn2 (k_for (b_parses_14 σ i7 x7) n14 (i14 + 1)) t))) ((r_parses_90_2 σ i7 x7 i14 x14) x90))
            unfold r_parses_90_2
            refine k_iload dX8_parses_90 4 rfl ?_
            refine k_iconst (v := 3) dX8_parses_92 rfl ?_
            refine k_icmp_ge (tgt := 123) dX8_parses_93 rfl ⟨by omega, by omega⟩ ⟨by decide, by decide⟩ (fun h24 => ?_) (fun h24 => absurd h24 (by omega))
            refine k_aload_n dX8_parses_123 0 rfl rfl (by decide) ?_
            refine k_dup dX8_parses_124 rfl ?_
            refine k_get (kf := 29) (v := .int (iI ((x14.2.2 123) 29))) dX8_parses_125 kcX8 w_1776 (by decide) (by decide) (s_123 hsh) rfl rfl ?_
            refine k_iconst (v := 1) dX8_parses_128 rfl ?_
            refine k_iadd dX8_parses_129 ?_
            refine k_putfW (kf := 29) dX8_parses_130 kcX8 w_1776 (by decide) (by decide) (s_123 hsh) rfl rfl rfl rfl ?_
            refine k_eqσ (σ' := (k_up (k_up (k_up x14.2.2 123 (k_u1 (x14.2.2 123) 29 (((x14.2.2 123) 29) + 1))) 138 (k_u1 (x14.2.2 138) ((x14.2.2 123) 29).toNat (x14.1))) 139 x90)) (show k_up (k_up (k_up x14.2.2 138 (k_u1 (x14.2.2 138) ((x14.2.2 123) 29).toNat (x14.1))) 139 x90) 123 (k_u1 (x14.2.2 123) 29 (((x14.2.2 123) 29) + 1)) = _ from ((k_up_comm (by decide)).trans (congrArg (fun s => k_up s 139 _) (k_up_comm (by decide))))).symm ?_
            refine k_aload_n dX8_parses_133 0 rfl rfl (by decide) ?_
            refine k_get (kf := 30) (v := .int (iI ((x14.2.2 123) 30))) dX8_parses_134 kcX8 w_1777 (by decide) (by decide) (s_123 hsh) rfl rfl ?_
            refine k_istore_n (ls' := [(0, .ref 123), (1, .int (iI ((x14.2.2 123) 30))), (2, .int (iI (x14.2.1))), (3, .int (iI (x14.1))), (4, .int (iI (((3 : Nat) : Int))))]) dX8_parses_137 rfl (by decide) rfl rfl ?_
            refine k_iload_n dX8_parses_138 1 rfl rfl ?_
            refine k_aload_n dX8_parses_139 0 rfl rfl (by decide) ?_
            refine k_get (kf := 28) (v := .int (iI ((x14.2.2 123) 28))) dX8_parses_140 kcX8 w_1775 (by decide) (by decide) (s_123 hsh) rfl rfl ?_
            refine k_icmp_ne (tgt := 148) dX8_parses_143 rfl ⟨by omega, by omega⟩ ⟨by omega, by omega⟩ (fun h25 => ?_) (fun h25 => ?_)
            · refine k_iff (F := (fun t => (fun t => (k_pP sh (R_parses)) (k_els (r_parses_7 σ) (k_cn2 (k_for (b_parses_7 σ) n7 (i7 + 1)) t))) (k_els (r_parses_14 σ i7 x7) (k_cn2 (k_for (b_parses_14 σ i7 x7) n14 (i14 + 1)) t)))) h25 ?_
              refine k_aload_n dX8_parses_148 0 rfl rfl (by decide) ?_
              refine k_get (kf := 14) (v := .ref 130) dX8_parses_149 kcX8 w_1761 (by decide) (by decide) (s_123 hsh) rfl rfl ?_
              refine k_iload_n dX8_parses_152 1 rfl rfl ?_
              refine k_cald dX8_parses_153 (by decide) (s_130 hsh) (by omega) (by omega) (by decide) ?_
              refine k_eqst (st' := [.int (iI ((x14.2.2 130) ((x14.2.2 123) 30).toNat))]) rfl ?_
              have q26 := (hU14.1).2.2.2.1 ((x14.2.2 123) 30).toNat
              refine k_bipush (v := 59) dX8_parses_154 (by decide) ?_
              refine k_icmp_eq (tgt := 161) dX8_parses_156 rfl ⟨by omega, by omega⟩ ⟨by decide, by decide⟩ (fun h27 => ?_) (fun h27 => ?_)
              · refine k_ift (F := (fun t => (fun t => (k_pP sh (R_parses)) (k_els (r_parses_7 σ) (k_cn2 (k_for (b_parses_7 σ) n7 (i7 + 1)) t))) (k_els (r_parses_14 σ i7 x7) (k_cn2 (k_for (b_parses_14 σ i7 x7) n14 (i14 + 1)) t)))) h27 ?_
                refine k_iinc (ls' := [(0, .ref 123), (1, .int (iI ((x14.2.2 123) 30 + 1))), (2, .int (iI (x14.2.1))), (3, .int (iI (x14.1))), (4, .int (iI (((3 : Nat) : Int))))]) dX8_parses_161 1 rfl (by decide) rfl rfl ?_
                refine k_goto (tgt := 7) dX8_parses_164 rfl ?_
                refine k_dropr (ls' := [(0, .ref 123), (1, .int (iI ((x14.2.2 123) 30 + 1)))]) (ex := [(2, .int (iI (x14.2.1))), (3, .int (iI (x14.1))), (4, .int (iI (((3 : Nat) : Int))))]) rfl ?_
                exact ih7 (((x14.2.2 123) 30 + 1, (k_up (k_up (k_up x14.2.2 123 (k_u1 (x14.2.2 123) 29 (((x14.2.2 123) 29) + 1))) 138 (k_u1 (x14.2.2 138) ((x14.2.2 123) 29).toNat (x14.1))) 139 x90))) (show k_MA ((k_up (k_up (k_up x14.2.2 123 (k_u1 (x14.2.2 123) 29 (((x14.2.2 123) 29) + 1))) 138 (k_u1 (x14.2.2 138) ((x14.2.2 123) 29).toNat (x14.1))) 139 x90)) ∧ k_Fo ((k_up (k_up (k_up x14.2.2 123 (k_u1 (x14.2.2 123) 29 (((x14.2.2 123) 29) + 1))) 138 (k_u1 (x14.2.2 138) ((x14.2.2 123) 29).toNat (x14.1))) 139 x90)) ∧ ((k_up (k_up (k_up x14.2.2 123 (k_u1 (x14.2.2 123) 29 (((x14.2.2 123) 29) + 1))) 138 (k_u1 (x14.2.2 138) ((x14.2.2 123) 29).toNat (x14.1))) 139 x90)) 123 29 = ((i7 + 1 : Nat) : Int) ∧ 6 * ((i7 + 1 : Nat) : Int) ≤ (x14.2.2 123) 30 + 1 ∧ (x14.2.2 123) 30 + 1 ≤ ((k_up (k_up (k_up x14.2.2 123 (k_u1 (x14.2.2 123) 29 (((x14.2.2 123) 29) + 1))) 138 (k_u1 (x14.2.2 138) ((x14.2.2 123) 29).toNat (x14.1))) 139 x90)) 123 28 from ⟨⟨(show k_F0 (k_u1 (x14.2.2 123) 29 (((x14.2.2 123) 29) + 1)) from (k_F0_u (hU14.1).1 (by omega))), (hU14.1).2.1, (hU14.1).2.2.1, (hU14.1).2.2.2.1, (hU14.1).2.2.2.2.1, (hU14.1).2.2.2.2.2.1, (hU14.1).2.2.2.2.2.2.1, (hU14.1).2.2.2.2.2.2.2.1, (hU14.1).2.2.2.2.2.2.2.2.1, (hU14.1).2.2.2.2.2.2.2.2.2.1, (show k_rg 0 11 (k_u1 (x14.2.2 138) ((x14.2.2 123) 29).toNat (x14.1)) from (k_rg_u (hU14.1).2.2.2.2.2.2.2.2.2.2.1 (by omega))), hW90_139, (hU14.1).2.2.2.2.2.2.2.2.2.2.2.2⟩, k_Fo_of rfl w_hFo, (show ((x14.2.2 123) 29) + 1 = ((i7 + 1 : Nat) : Int) from by omega), (show 6 * ((i7 + 1 : Nat) : Int) ≤ (x14.2.2 123) 30 + 1 ∧ (x14.2.2 123) 30 + 1 ≤ (x14.2.2 123) 28 from by omega)⟩)
              · refine k_iff (F := (fun t => (fun t => (k_pP sh (R_parses)) (k_els (r_parses_7 σ) (k_cn2 (k_for (b_parses_7 σ) n7 (i7 + 1)) t))) (k_els (r_parses_14 σ i7 x7) (k_cn2 (k_for (b_parses_14 σ i7 x7) n14 (i14 + 1)) t)))) h27 ?_
                refine k_iload_n dX8_parses_159 1 rfl rfl ?_
                exact k_retiP dX8_parses_160 rfl rfl rfl (show (-1 ≤ (x14.2.2 123) 30 ∧ (x14.2.2 123) 30 ≤ 60) ∧ k_MA (k_up (k_up (k_up x14.2.2 123 (k_u1 (x14.2.2 123) 29 (((x14.2.2 123) 29) + 1))) 138 (k_u1 (x14.2.2 138) ((x14.2.2 123) 29).toNat (x14.1))) 139 x90) from ⟨by omega, ⟨(show k_F0 (k_u1 (x14.2.2 123) 29 (((x14.2.2 123) 29) + 1)) from (k_F0_u (hU14.1).1 (by omega))), (hU14.1).2.1, (hU14.1).2.2.1, (hU14.1).2.2.2.1, (hU14.1).2.2.2.2.1, (hU14.1).2.2.2.2.2.1, (hU14.1).2.2.2.2.2.2.1, (hU14.1).2.2.2.2.2.2.2.1, (hU14.1).2.2.2.2.2.2.2.2.1, (hU14.1).2.2.2.2.2.2.2.2.2.1, (show k_rg 0 11 (k_u1 (x14.2.2 138) ((x14.2.2 123) 29).toNat (x14.1)) from (k_rg_u (hU14.1).2.2.2.2.2.2.2.2.2.2.1 (by omega))), hW90_139, (hU14.1).2.2.2.2.2.2.2.2.2.2.2.2⟩⟩)
            · refine k_ift (F := (fun t => (fun t => (k_pP sh (R_parses)) (k_els (r_parses_7 σ) (k_cn2 (k_for (b_parses_7 σ) n7 (i7 + 1)) t))) (k_els (r_parses_14 σ i7 x7) (k_cn2 (k_for (b_parses_14 σ i7 x7) n14 (i14 + 1)) t)))) h25 ?_
              refine k_iconst (v := (-1)) dX8_parses_146 rfl ?_
              exact k_retiP dX8_parses_147 rfl rfl rfl (show (-1 ≤ (-1 : Int) ∧ (-1 : Int) ≤ 60) ∧ k_MA (k_up (k_up (k_up x14.2.2 123 (k_u1 (x14.2.2 123) 29 (((x14.2.2 123) 29) + 1))) 138 (k_u1 (x14.2.2 138) ((x14.2.2 123) 29).toNat (x14.1))) 139 x90) from ⟨by omega, ⟨(show k_F0 (k_u1 (x14.2.2 123) 29 (((x14.2.2 123) 29) + 1)) from (k_F0_u (hU14.1).1 (by omega))), (hU14.1).2.1, (hU14.1).2.2.1, (hU14.1).2.2.2.1, (hU14.1).2.2.2.2.1, (hU14.1).2.2.2.2.2.1, (hU14.1).2.2.2.2.2.2.1, (hU14.1).2.2.2.2.2.2.2.1, (hU14.1).2.2.2.2.2.2.2.2.1, (hU14.1).2.2.2.2.2.2.2.2.2.1, (show k_rg 0 11 (k_u1 (x14.2.2 138) ((x14.2.2 123) 29).toNat (x14.1)) from (k_rg_u (hU14.1).2.2.2.2.2.2.2.2.2.2.1 (by omega))), hW90_139, (hU14.1).2.2.2.2.2.2.2.2.2.2.2.2⟩⟩)
          · intro n90 i90 x90 hi90 hJ90 ih90
            have hJ90 : (k_rg 0 99 x90) := hJ90
            have hW90_139 := hJ90
            show k_V E mX8_parses _ 90 [(0, .ref 123), (1, .int (iI (x7.1))), (2, .int (iI (x14.2.1))), (3, .int (iI (x14.1))), (4, .int (iI ((i90 : Int))))] [] sh (k_up (k_up x14.2.2 138 (k_u1 (x14.2.2 138) ((x14.2.2 123) 29).toNat (x14.1))) 139 x90) _ _ ((fun t => (fun t => (fun t => (k_pP sh (R_parses)) (k_els (r_parses_7 σ) (k_cn2 (k_for (b_parses_7 σ) n7 (i7 + 1)) t))) (k_els (r_parses_14 σ i7 x7) (k_cn2 (k_for (b_parses_14 σ i7 x7) n14 (i14 + 1)) t))) ((r_parses_90_2 σ i7 x7 i14 x14) (k_it (b_parses_90_2 σ i7 x7 i14 x14) n90 (i90 + 1) t))) ((b_parses_90_2 σ i7 x7 i14 x14) i90 x90))
            unfold b_parses_90_2
            refine k_iload dX8_parses_90 4 rfl ?_
            refine k_iconst (v := 3) dX8_parses_92 rfl ?_
            refine k_icmp_ge (tgt := 123) dX8_parses_93 rfl ⟨by omega, by omega⟩ ⟨by decide, by decide⟩ (fun h28 => absurd h28 (by omega)) (fun h28 => ?_)
            refine k_aload_n dX8_parses_96 0 rfl rfl (by decide) ?_
            refine k_get (kf := 26) (v := .ref 139) dX8_parses_97 kcX8 w_1773 (by decide) (by decide) (s_123 hsh) rfl rfl ?_
            refine k_iconst (v := 3) dX8_parses_100 rfl ?_
            refine k_aload_n dX8_parses_101 0 rfl rfl (by decide) ?_
            refine k_get (kf := 29) (v := .int (iI ((x14.2.2 123) 29))) dX8_parses_102 kcX8 w_1776 (by decide) (by decide) (s_123 hsh) rfl rfl ?_
            refine k_imul dX8_parses_105 ?_
            refine k_iload dX8_parses_106 4 rfl ?_
            refine k_iadd dX8_parses_108 ?_
            refine k_aload_n dX8_parses_109 0 rfl rfl (by decide) ?_
            refine k_get (kf := 27) (v := .ref 140) dX8_parses_110 kcX8 w_1774 (by decide) (by decide) (s_123 hsh) rfl rfl ?_
            refine k_iload dX8_parses_113 4 rfl ?_
            refine k_iald dX8_parses_115 (by decide) (s_140 hsh) (by omega) (by omega) (by decide) ?_
            refine k_eqst (st' := [.int (iI ((x14.2.2 140) ((i90 : Int)).toNat)), .int (iI ((3 * ((x14.2.2 123) 29)) + ((i90 : Int)))), .ref 139]) rfl ?_
            have q29 := (hU14.1).2.2.2.2.2.2.2.2.2.2.2.2 ((i90 : Int)).toNat
            refine k_iastW dX8_parses_116 (by decide) (s_139 hsh) (by omega) (by omega) (by decide) ?_
            refine k_eqσ (σ' := (k_up (k_up x14.2.2 138 (k_u1 (x14.2.2 138) ((x14.2.2 123) 29).toNat (x14.1))) 139 (k_u1 x90 ((3 * ((x14.2.2 123) 29)) + ((i90 : Int))).toNat ((x14.2.2 140) ((i90 : Int)).toNat)))) (show k_up (k_up (k_up x14.2.2 138 (k_u1 (x14.2.2 138) ((x14.2.2 123) 29).toNat (x14.1))) 139 x90) 139 (k_u1 x90 ((3 * ((x14.2.2 123) 29)) + ((i90 : Int))).toNat ((x14.2.2 140) ((i90 : Int)).toNat)) = _ from k_up_up).symm ?_
            refine k_iinc (ls' := [(0, .ref 123), (1, .int (iI (x7.1))), (2, .int (iI (x14.2.1))), (3, .int (iI (x14.1))), (4, .int (iI ((i90 : Int) + 1)))]) dX8_parses_117 4 rfl (by decide) rfl rfl ?_
            refine k_goto (tgt := 90) dX8_parses_120 rfl ?_
            exact ih90 ((k_u1 x90 ((3 * ((x14.2.2 123) 29)) + ((i90 : Int))).toNat ((x14.2.2 140) ((i90 : Int)).toNat))) (show (k_rg 0 99 (k_u1 x90 ((3 * ((x14.2.2 123) 29)) + ((i90 : Int))).toNat ((x14.2.2 140) ((i90 : Int)).toNat))) from (show k_rg 0 99 (k_u1 x90 ((3 * ((x14.2.2 123) 29)) + ((i90 : Int))).toNat ((x14.2.2 140) ((i90 : Int)).toNat)) from (k_rg_u hW90_139 (by omega))))
        · refine k_ift (F := (fun t => (fun t => (k_pP sh (R_parses)) (k_els (r_parses_7 σ) (k_cn2 (k_for (b_parses_7 σ) n7 (i7 + 1)) t))) (k_els (r_parses_14 σ i7 x7) (k_cn2 (k_for (b_parses_14 σ i7 x7) n14 (i14 + 1)) t)))) h22 ?_
          refine k_iload_n dX8_parses_75 2 rfl rfl ?_
          exact k_retiP dX8_parses_76 rfl rfl rfl (show (-1 ≤ x14.2.1 ∧ x14.2.1 ≤ 60) ∧ k_MA x14.2.2 from ⟨by omega, ⟨(hU14.1).1, (hU14.1).2.1, (hU14.1).2.2.1, (hU14.1).2.2.2.1, (hU14.1).2.2.2.2.1, (hU14.1).2.2.2.2.2.1, (hU14.1).2.2.2.2.2.2.1, (hU14.1).2.2.2.2.2.2.2.1, (hU14.1).2.2.2.2.2.2.2.2.1, (hU14.1).2.2.2.2.2.2.2.2.2.1, (hU14.1).2.2.2.2.2.2.2.2.2.2.1, (hU14.1).2.2.2.2.2.2.2.2.2.2.2.1, (hU14.1).2.2.2.2.2.2.2.2.2.2.2.2⟩⟩)
      · refine k_ift (F := (fun t => (fun t => (k_pP sh (R_parses)) (k_els (r_parses_7 σ) (k_cn2 (k_for (b_parses_7 σ) n7 (i7 + 1)) t))) (k_els (r_parses_14 σ i7 x7) (k_cn2 (k_for (b_parses_14 σ i7 x7) n14 (i14 + 1)) t)))) h21 ?_
        refine k_aload_n dX8_parses_29 0 rfl rfl (by decide) ?_
        refine k_aload_n dX8_parses_30 0 rfl rfl (by decide) ?_
        refine k_get (kf := 24) (v := .ref 137) dX8_parses_31 kcX8 w_1771 (by decide) (by decide) (s_123 hsh) rfl rfl ?_
        refine k_iload dX8_parses_34 4 rfl ?_
        have q30 : (x14.2.2 137) ((i14 : Int)).toNat = 1000023 + ((((i14 : Int)).toNat : Nat) : Int) := w_hFo ((i14 : Int)).toNat (by omega)
        refine k_aald6 (r := 1000010 + (12 + ((i14 : Int)).toNat)) dX8_parses_36 (by decide) (s_137 hsh) (by omega) (by omega) (by decide) (by omega) (by show (x14.2.2 137) ((i14 : Int)).toNat = _; omega) ?_
        refine k_iload_n dX8_parses_37 1 rfl rfl ?_
        refine k_callVrP (st := []) (as := [.ref (1000010 + (12 + ((i14 : Int)).toNat)), .int (iI (x7.1))]) dX8_parses_38 oX8_reads w_2256 w_2258 w_81 rfl (by omega) rfl (Nat.le_of_ble_eq_true rfl) (by decide) (s_123 hsh) rfl (c8_reads (σ := x14.2.2) hsh (show k_MA x14.2.2 from ⟨(hU14.1).1, (hU14.1).2.1, (hU14.1).2.2.1, (hU14.1).2.2.2.1, (hU14.1).2.2.2.2.1, (hU14.1).2.2.2.2.2.1, (hU14.1).2.2.2.2.2.2.1, (hU14.1).2.2.2.2.2.2.2.1, (hU14.1).2.2.2.2.2.2.2.2.1, (hU14.1).2.2.2.2.2.2.2.2.2.1, (hU14.1).2.2.2.2.2.2.2.2.2.2.1, (hU14.1).2.2.2.2.2.2.2.2.2.2.2.1, (hU14.1).2.2.2.2.2.2.2.2.2.2.2.2⟩) (by omega) (by omega) (by omega) (by omega)) (fun z31 => ?_)
        have z31 : k_MA (m_reads x14.2.2 (12 + ((i14 : Int)).toNat) (x7.1)).2 ∧ (0 ≤ (m_reads x14.2.2 (12 + ((i14 : Int)).toNat) (x7.1)).2 123 30 ∧ (m_reads x14.2.2 (12 + ((i14 : Int)).toNat) (x7.1)).2 123 30 ≤ (m_reads x14.2.2 (12 + ((i14 : Int)).toNat) (x7.1)).2 123 28) ∧ (m_reads x14.2.2 (12 + ((i14 : Int)).toNat) (x7.1)).2 123 28 = x14.2.2 123 28 ∧ (m_reads x14.2.2 (12 + ((i14 : Int)).toNat) (x7.1)).2 123 29 = x14.2.2 123 29 ∧ (m_reads x14.2.2 (12 + ((i14 : Int)).toNat) (x7.1)).2 137 = x14.2.2 137 ∧ ((m_reads x14.2.2 (12 + ((i14 : Int)).toNat) (x7.1)).1 = true → (x7.1) + 5 ≤ (m_reads x14.2.2 (12 + ((i14 : Int)).toNat) (x7.1)).2 123 30) := z31
        obtain ⟨z31_ma, y32, y33, y34, y_fo, y_D⟩ := z31
        have w_hFo := k_Fo_of y_fo w_hFo
        obtain ⟨⟨y35_0, y35_0b⟩, ⟨y35_1, y35_1b⟩, ⟨y35_2, y35_2b⟩, ⟨y35_3, y35_3b⟩, -⟩ := id (z31_ma).2.1
        obtain ⟨⟨f36_0, g36_0⟩, ⟨f36_1, g36_1⟩, ⟨f36_2, g36_2⟩, ⟨f36_3, g36_3⟩, ⟨f36_4, g36_4⟩, ⟨f36_5, g36_5⟩, ⟨f36_6, g36_6⟩, ⟨f36_7, g36_7⟩, ⟨f36_8, g36_8⟩, ⟨f36_9, g36_9⟩, ⟨f36_10, g36_10⟩, ⟨f36_11, g36_11⟩, ⟨f36_12, g36_12⟩, ⟨f36_13, g36_13⟩⟩ := id (z31_ma).1
        refine k_if_eq (tgt := 47) dX8_parses_41 rfl (zb_kr _) (fun h37 => ?_) (fun h37 => ?_)
        · have h37 := zb_0.mp h37
          refine k_iff (F := (fun t => (fun t => (k_pP sh (R_parses)) (k_els (r_parses_7 σ) (k_cn2 (k_for (b_parses_7 σ) n7 (i7 + 1)) t))) (k_els (r_parses_14 σ i7 x7) (k_cn2 (k_for (b_parses_14 σ i7 x7) n14 (i14 + 1)) t)))) h37 ?_
          refine k_aload_n dX8_parses_47 0 rfl rfl (by decide) ?_
          refine k_get (kf := 30) (v := .int (iI (((m_reads x14.2.2 (12 + ((i14 : Int)).toNat) (x7.1)).2 123) 30))) dX8_parses_48 kcX8 w_1777 (by decide) (by decide) (s_123 hsh) rfl rfl ?_
          refine k_iload_n dX8_parses_51 2 rfl rfl ?_
          refine k_icmp_le (tgt := 62) dX8_parses_52 rfl ⟨by omega, by omega⟩ ⟨by omega, by omega⟩ (fun h38 => ?_) (fun h38 => ?_)
          · refine k_ift (F := (fun t => (fun t => (k_pP sh (R_parses)) (k_els (r_parses_7 σ) (k_cn2 (k_for (b_parses_7 σ) n7 (i7 + 1)) t))) (k_els (r_parses_14 σ i7 x7) (k_cn2 (k_for (b_parses_14 σ i7 x7) n14 (i14 + 1)) t)))) h38 ?_
            refine k_iload_n dX8_parses_62 2 rfl rfl ?_
            refine k_istore_n (ls' := [(0, .ref 123), (1, .int (iI (x7.1))), (2, .int (iI (x14.2.1))), (3, .int (iI (x14.1))), (4, .int (iI ((i14 : Int))))]) dX8_parses_63 rfl (by decide) rfl rfl ?_
            refine k_iinc (ls' := [(0, .ref 123), (1, .int (iI (x7.1))), (2, .int (iI (x14.2.1))), (3, .int (iI (x14.1))), (4, .int (iI ((i14 : Int) + 1)))]) dX8_parses_64 4 rfl (by decide) rfl rfl ?_
            refine k_goto (tgt := 14) dX8_parses_67 rfl ?_
            exact ih14 ((x14.1, x14.2.1, (m_reads x14.2.2 (12 + ((i14 : Int)).toNat) (x7.1)).2)) (show k_MA ((m_reads x14.2.2 (12 + ((i14 : Int)).toNat) (x7.1)).2) ∧ k_Fo ((m_reads x14.2.2 (12 + ((i14 : Int)).toNat) (x7.1)).2) ∧ ((m_reads x14.2.2 (12 + ((i14 : Int)).toNat) (x7.1)).2) 123 29 = x7.2 123 29 ∧ ((m_reads x14.2.2 (12 + ((i14 : Int)).toNat) (x7.1)).2) 123 28 = x7.2 123 28 ∧ (x7.1 ≤ x14.2.1 ∧ x14.2.1 ≤ x7.2 123 28) ∧ (-1 ≤ x14.1 ∧ x14.1 ≤ 11) ∧ (x14.1 = -1 ∨ (x7.1 + 5 ≤ ((m_reads x14.2.2 (12 + ((i14 : Int)).toNat) (x7.1)).2) 123 30 ∧ ((m_reads x14.2.2 (12 + ((i14 : Int)).toNat) (x7.1)).2) 123 30 ≤ x7.2 123 28)) from ⟨⟨(z31_ma).1, (z31_ma).2.1, (z31_ma).2.2.1, (z31_ma).2.2.2.1, (z31_ma).2.2.2.2.1, (z31_ma).2.2.2.2.2.1, (z31_ma).2.2.2.2.2.2.1, (z31_ma).2.2.2.2.2.2.2.1, (z31_ma).2.2.2.2.2.2.2.2.1, (z31_ma).2.2.2.2.2.2.2.2.2.1, (z31_ma).2.2.2.2.2.2.2.2.2.2.1, (z31_ma).2.2.2.2.2.2.2.2.2.2.2.1, (z31_ma).2.2.2.2.2.2.2.2.2.2.2.2⟩, w_hFo, by omega⟩)
          · refine k_iff (F := (fun t => (fun t => (k_pP sh (R_parses)) (k_els (r_parses_7 σ) (k_cn2 (k_for (b_parses_7 σ) n7 (i7 + 1)) t))) (k_els (r_parses_14 σ i7 x7) (k_cn2 (k_for (b_parses_14 σ i7 x7) n14 (i14 + 1)) t)))) (Int.not_le.mpr h38) ?_
            refine k_aload_n dX8_parses_55 0 rfl rfl (by decide) ?_
            refine k_get (kf := 30) (v := .int (iI (((m_reads x14.2.2 (12 + ((i14 : Int)).toNat) (x7.1)).2 123) 30))) dX8_parses_56 kcX8 w_1777 (by decide) (by decide) (s_123 hsh) rfl rfl ?_
            refine k_goto (tgt := 63) dX8_parses_59 rfl ?_
            refine k_istore_n (ls' := [(0, .ref 123), (1, .int (iI (x7.1))), (2, .int (iI (((m_reads x14.2.2 (12 + ((i14 : Int)).toNat) (x7.1)).2 123) 30))), (3, .int (iI (x14.1))), (4, .int (iI ((i14 : Int))))]) dX8_parses_63 rfl (by decide) rfl rfl ?_
            refine k_iinc (ls' := [(0, .ref 123), (1, .int (iI (x7.1))), (2, .int (iI (((m_reads x14.2.2 (12 + ((i14 : Int)).toNat) (x7.1)).2 123) 30))), (3, .int (iI (x14.1))), (4, .int (iI ((i14 : Int) + 1)))]) dX8_parses_64 4 rfl (by decide) rfl rfl ?_
            refine k_goto (tgt := 14) dX8_parses_67 rfl ?_
            exact ih14 ((x14.1, ((m_reads x14.2.2 (12 + ((i14 : Int)).toNat) (x7.1)).2 123) 30, (m_reads x14.2.2 (12 + ((i14 : Int)).toNat) (x7.1)).2)) (show k_MA ((m_reads x14.2.2 (12 + ((i14 : Int)).toNat) (x7.1)).2) ∧ k_Fo ((m_reads x14.2.2 (12 + ((i14 : Int)).toNat) (x7.1)).2) ∧ ((m_reads x14.2.2 (12 + ((i14 : Int)).toNat) (x7.1)).2) 123 29 = x7.2 123 29 ∧ ((m_reads x14.2.2 (12 + ((i14 : Int)).toNat) (x7.1)).2) 123 28 = x7.2 123 28 ∧ (x7.1 ≤ ((m_reads x14.2.2 (12 + ((i14 : Int)).toNat) (x7.1)).2 123) 30 ∧ ((m_reads x14.2.2 (12 + ((i14 : Int)).toNat) (x7.1)).2 123) 30 ≤ x7.2 123 28) ∧ (-1 ≤ x14.1 ∧ x14.1 ≤ 11) ∧ (x14.1 = -1 ∨ (x7.1 + 5 ≤ ((m_reads x14.2.2 (12 + ((i14 : Int)).toNat) (x7.1)).2) 123 30 ∧ ((m_reads x14.2.2 (12 + ((i14 : Int)).toNat) (x7.1)).2) 123 30 ≤ x7.2 123 28)) from ⟨⟨(z31_ma).1, (z31_ma).2.1, (z31_ma).2.2.1, (z31_ma).2.2.2.1, (z31_ma).2.2.2.2.1, (z31_ma).2.2.2.2.2.1, (z31_ma).2.2.2.2.2.2.1, (z31_ma).2.2.2.2.2.2.2.1, (z31_ma).2.2.2.2.2.2.2.2.1, (z31_ma).2.2.2.2.2.2.2.2.2.1, (z31_ma).2.2.2.2.2.2.2.2.2.2.1, (z31_ma).2.2.2.2.2.2.2.2.2.2.2.1, (z31_ma).2.2.2.2.2.2.2.2.2.2.2.2⟩, w_hFo, by omega⟩)
        · have h37 := zb_n0.mp h37
          refine k_ift (F := (fun t => (fun t => (k_pP sh (R_parses)) (k_els (r_parses_7 σ) (k_cn2 (k_for (b_parses_7 σ) n7 (i7 + 1)) t))) (k_els (r_parses_14 σ i7 x7) (k_cn2 (k_for (b_parses_14 σ i7 x7) n14 (i14 + 1)) t)))) h37 ?_
          have y39 := y_D h37
          refine k_iload dX8_parses_44 4 rfl ?_
          refine k_istore_n (ls' := [(0, .ref 123), (1, .int (iI (x7.1))), (2, .int (iI (x14.2.1))), (3, .int (iI ((i14 : Int)))), (4, .int (iI ((i14 : Int))))]) dX8_parses_46 rfl (by decide) rfl rfl ?_
          refine k_aload_n dX8_parses_47 0 rfl rfl (by decide) ?_
          refine k_get (kf := 30) (v := .int (iI (((m_reads x14.2.2 (12 + ((i14 : Int)).toNat) (x7.1)).2 123) 30))) dX8_parses_48 kcX8 w_1777 (by decide) (by decide) (s_123 hsh) rfl rfl ?_
          refine k_iload_n dX8_parses_51 2 rfl rfl ?_
          refine k_icmp_le (tgt := 62) dX8_parses_52 rfl ⟨by omega, by omega⟩ ⟨by omega, by omega⟩ (fun h40 => ?_) (fun h40 => ?_)
          · refine k_ift (F := (fun t => (fun t => (k_pP sh (R_parses)) (k_els (r_parses_7 σ) (k_cn2 (k_for (b_parses_7 σ) n7 (i7 + 1)) t))) (k_els (r_parses_14 σ i7 x7) (k_cn2 (k_for (b_parses_14 σ i7 x7) n14 (i14 + 1)) t)))) h40 ?_
            refine k_iload_n dX8_parses_62 2 rfl rfl ?_
            refine k_istore_n (ls' := [(0, .ref 123), (1, .int (iI (x7.1))), (2, .int (iI (x14.2.1))), (3, .int (iI ((i14 : Int)))), (4, .int (iI ((i14 : Int))))]) dX8_parses_63 rfl (by decide) rfl rfl ?_
            refine k_iinc (ls' := [(0, .ref 123), (1, .int (iI (x7.1))), (2, .int (iI (x14.2.1))), (3, .int (iI ((i14 : Int)))), (4, .int (iI ((i14 : Int) + 1)))]) dX8_parses_64 4 rfl (by decide) rfl rfl ?_
            refine k_goto (tgt := 14) dX8_parses_67 rfl ?_
            exact ih14 (((i14 : Int), x14.2.1, (m_reads x14.2.2 (12 + ((i14 : Int)).toNat) (x7.1)).2)) (show k_MA ((m_reads x14.2.2 (12 + ((i14 : Int)).toNat) (x7.1)).2) ∧ k_Fo ((m_reads x14.2.2 (12 + ((i14 : Int)).toNat) (x7.1)).2) ∧ ((m_reads x14.2.2 (12 + ((i14 : Int)).toNat) (x7.1)).2) 123 29 = x7.2 123 29 ∧ ((m_reads x14.2.2 (12 + ((i14 : Int)).toNat) (x7.1)).2) 123 28 = x7.2 123 28 ∧ (x7.1 ≤ x14.2.1 ∧ x14.2.1 ≤ x7.2 123 28) ∧ (-1 ≤ (i14 : Int) ∧ (i14 : Int) ≤ 11) ∧ ((i14 : Int) = -1 ∨ (x7.1 + 5 ≤ ((m_reads x14.2.2 (12 + ((i14 : Int)).toNat) (x7.1)).2) 123 30 ∧ ((m_reads x14.2.2 (12 + ((i14 : Int)).toNat) (x7.1)).2) 123 30 ≤ x7.2 123 28)) from ⟨⟨(z31_ma).1, (z31_ma).2.1, (z31_ma).2.2.1, (z31_ma).2.2.2.1, (z31_ma).2.2.2.2.1, (z31_ma).2.2.2.2.2.1, (z31_ma).2.2.2.2.2.2.1, (z31_ma).2.2.2.2.2.2.2.1, (z31_ma).2.2.2.2.2.2.2.2.1, (z31_ma).2.2.2.2.2.2.2.2.2.1, (z31_ma).2.2.2.2.2.2.2.2.2.2.1, (z31_ma).2.2.2.2.2.2.2.2.2.2.2.1, (z31_ma).2.2.2.2.2.2.2.2.2.2.2.2⟩, w_hFo, by omega⟩)
          · refine k_iff (F := (fun t => (fun t => (k_pP sh (R_parses)) (k_els (r_parses_7 σ) (k_cn2 (k_for (b_parses_7 σ) n7 (i7 + 1)) t))) (k_els (r_parses_14 σ i7 x7) (k_cn2 (k_for (b_parses_14 σ i7 x7) n14 (i14 + 1)) t)))) (Int.not_le.mpr h40) ?_
            refine k_aload_n dX8_parses_55 0 rfl rfl (by decide) ?_
            refine k_get (kf := 30) (v := .int (iI (((m_reads x14.2.2 (12 + ((i14 : Int)).toNat) (x7.1)).2 123) 30))) dX8_parses_56 kcX8 w_1777 (by decide) (by decide) (s_123 hsh) rfl rfl ?_
            refine k_goto (tgt := 63) dX8_parses_59 rfl ?_
            refine k_istore_n (ls' := [(0, .ref 123), (1, .int (iI (x7.1))), (2, .int (iI (((m_reads x14.2.2 (12 + ((i14 : Int)).toNat) (x7.1)).2 123) 30))), (3, .int (iI ((i14 : Int)))), (4, .int (iI ((i14 : Int))))]) dX8_parses_63 rfl (by decide) rfl rfl ?_
            refine k_iinc (ls' := [(0, .ref 123), (1, .int (iI (x7.1))), (2, .int (iI (((m_reads x14.2.2 (12 + ((i14 : Int)).toNat) (x7.1)).2 123) 30))), (3, .int (iI ((i14 : Int)))), (4, .int (iI ((i14 : Int) + 1)))]) dX8_parses_64 4 rfl (by decide) rfl rfl ?_
            refine k_goto (tgt := 14) dX8_parses_67 rfl ?_
            exact ih14 (((i14 : Int), ((m_reads x14.2.2 (12 + ((i14 : Int)).toNat) (x7.1)).2 123) 30, (m_reads x14.2.2 (12 + ((i14 : Int)).toNat) (x7.1)).2)) (show k_MA ((m_reads x14.2.2 (12 + ((i14 : Int)).toNat) (x7.1)).2) ∧ k_Fo ((m_reads x14.2.2 (12 + ((i14 : Int)).toNat) (x7.1)).2) ∧ ((m_reads x14.2.2 (12 + ((i14 : Int)).toNat) (x7.1)).2) 123 29 = x7.2 123 29 ∧ ((m_reads x14.2.2 (12 + ((i14 : Int)).toNat) (x7.1)).2) 123 28 = x7.2 123 28 ∧ (x7.1 ≤ ((m_reads x14.2.2 (12 + ((i14 : Int)).toNat) (x7.1)).2 123) 30 ∧ ((m_reads x14.2.2 (12 + ((i14 : Int)).toNat) (x7.1)).2 123) 30 ≤ x7.2 123 28) ∧ (-1 ≤ (i14 : Int) ∧ (i14 : Int) ≤ 11) ∧ ((i14 : Int) = -1 ∨ (x7.1 + 5 ≤ ((m_reads x14.2.2 (12 + ((i14 : Int)).toNat) (x7.1)).2) 123 30 ∧ ((m_reads x14.2.2 (12 + ((i14 : Int)).toNat) (x7.1)).2) 123 30 ≤ x7.2 123 28)) from ⟨⟨(z31_ma).1, (z31_ma).2.1, (z31_ma).2.2.1, (z31_ma).2.2.2.1, (z31_ma).2.2.2.2.1, (z31_ma).2.2.2.2.2.1, (z31_ma).2.2.2.2.2.2.1, (z31_ma).2.2.2.2.2.2.2.1, (z31_ma).2.2.2.2.2.2.2.2.1, (z31_ma).2.2.2.2.2.2.2.2.2.1, (z31_ma).2.2.2.2.2.2.2.2.2.2.1, (z31_ma).2.2.2.2.2.2.2.2.2.2.2.1, (z31_ma).2.2.2.2.2.2.2.2.2.2.2.2⟩, w_hFo, by omega⟩)
end K_M5
