/-! ===== THE MODEL: texts and programs ===== -/
section K_M5
variable {E : k_E} {M : k_M} {dp pc k n : Nat} {ls : List (Nat × Value)} {st : List Value} {sh : List k_Sh} {σ : Nat → Nat → Int} {r : Nat → Int} {Q : k_Q}
set_option maxHeartbeats 4000000 in
theorem c8_writes (hsh : k_Main sh) (hF : 0 ≤ σ 123 15 ∧ σ 123 15 < 40) {c : Int} (hc : 0 ≤ c ∧ c < 128) : k_C E mX8_writes 1 [.ref 123, .int (iI (c))] sh σ 0 0 (k_ret none sh (k_up (k_up σ 123 (k_u1 (σ 123) 15 (σ 123 15 + 1))) 129 (k_u1 (σ 129) (σ 123 15).toNat c))) := by
  refine k_C_of (ls0 := [(0, .ref 123), (1, .int (iI (c)))]) rfl pnX8 (fun v hv => k_cat1 rfl hv) (Nat.le_of_ble_eq_true rfl) rfl ?_
  refine k_aload_n dX8_writes_0 0 rfl rfl (by decide) ?_
  refine k_get (kf := 13) (v := .ref 129) dX8_writes_1 kcX8 w_1761 (by decide) (by decide) (s_123 hsh) rfl rfl ?_
  refine k_aload_n dX8_writes_4 0 rfl rfl (by decide) ?_
  refine k_get (kf := 15) (v := .int (iI ((σ 123) 15))) dX8_writes_5 kcX8 w_1763 (by decide) (by decide) (s_123 hsh) rfl rfl ?_
  refine k_iload_n dX8_writes_8 1 rfl rfl ?_
  refine k_castW dX8_writes_9 (by decide) (s_129 hsh) (by omega) (by omega) (by decide) (k_nC (by omega)) ?_
  refine k_eqσ (σ' := (k_up σ 129 (k_u1 (σ 129) ((σ 123) 15).toNat (c)))) rfl ?_
  refine k_aload_n dX8_writes_10 0 rfl rfl (by decide) ?_
  refine k_dup dX8_writes_11 rfl ?_
  refine k_get (kf := 15) (v := .int (iI ((σ 123) 15))) dX8_writes_12 kcX8 w_1763 (by decide) (by decide) (s_123 hsh) rfl rfl ?_
  refine k_iconst (v := 1) dX8_writes_15 rfl ?_
  refine k_iadd dX8_writes_16 ?_
  refine k_putfW (kf := 15) dX8_writes_17 kcX8 w_1763 (by decide) (by decide) (s_123 hsh) rfl rfl rfl rfl ?_
  refine k_eqσ (σ' := (k_up (k_up σ 123 (k_u1 (σ 123) 15 (((σ 123) 15) + 1))) 129 (k_u1 (σ 129) ((σ 123) 15).toNat (c)))) (show k_up (k_up σ 129 (k_u1 (σ 129) ((σ 123) 15).toNat (c))) 123 (k_u1 (σ 123) 15 (((σ 123) 15) + 1)) = _ from (k_up_comm (by decide))).symm ?_
  exact k_retv dX8_writes_20 rfl rfl
abbrev R_writeTimetable (t : Int × (Nat → Nat → Int)) : Prop := (-1 ≤ t.1 ∧ t.1 ≤ 1000) ∧ k_MA t.2
def r_writeTimetable_57 (σ : Nat → Nat → Int) (p : Int) (x57 : (Nat → Int) × (Nat → Int)) : Int × (Nat → Nat → Int) := ((x57.1) 15, (k_up (k_up σ 123 (k_u1 (x57.1) 7 (0))) 129 (x57.2)))
def b_writeTimetable_57 (σ : Nat → Nat → Int) (p : Int) (i57 : Nat) (x57 : (Nat → Int) × (Nat → Int)) : (Nat → Int) × (Nat → Int) := if ((σ 124) (105 + 4 * p + (i57 : Int)).toNat) = (-1) then if ((σ 124) (105 + 4 * p + (i57 : Int)).toNat) = (-1) then ((k_u1 (k_u1 (x57.1) 15 ((x57.1) 15 + 1)) 15 ((x57.1) 15 + 1 + 1)), (k_u1 (k_u1 (x57.2) (((x57.1) 15 : Int)).toNat (32)) (((x57.1) 15 + 1 : Int)).toNat (45))) else if ((σ 124) (105 + 4 * p + (i57 : Int)).toNat) = ((σ 124) (93 + p).toNat) then ((k_u1 (k_u1 (k_u1 (x57.1) 15 ((x57.1) 15 + 1)) 15 ((x57.1) 15 + 1 + 1)) 15 ((x57.1) 15 + 1 + 1 + 1)), (k_u1 (k_u1 (k_u1 (x57.2) (((x57.1) 15 : Int)).toNat (32)) (((x57.1) 15 + 1 : Int)).toNat (45)) (((x57.1) 15 + 1 + 1 : Int)).toNat (33))) else ((k_u1 (k_u1 (x57.1) 15 ((x57.1) 15 + 1)) 15 ((x57.1) 15 + 1 + 1)), (k_u1 (k_u1 (x57.2) (((x57.1) 15 : Int)).toNat (32)) (((x57.1) 15 + 1 : Int)).toNat (45))) else if ((σ 124) (105 + 4 * p + (i57 : Int)).toNat) = (-1) then ((k_u1 (k_u1 (x57.1) 15 ((x57.1) 15 + 1)) 15 ((x57.1) 15 + 1 + 1)), (k_u1 (k_u1 (x57.2) (((x57.1) 15 : Int)).toNat (32)) (((x57.1) 15 + 1 : Int)).toNat (48 + ((σ 124) (105 + 4 * p + (i57 : Int)).toNat)))) else if ((σ 124) (105 + 4 * p + (i57 : Int)).toNat) = ((σ 124) (93 + p).toNat) then ((k_u1 (k_u1 (k_u1 (x57.1) 15 ((x57.1) 15 + 1)) 15 ((x57.1) 15 + 1 + 1)) 15 ((x57.1) 15 + 1 + 1 + 1)), (k_u1 (k_u1 (k_u1 (x57.2) (((x57.1) 15 : Int)).toNat (32)) (((x57.1) 15 + 1 : Int)).toNat (48 + ((σ 124) (105 + 4 * p + (i57 : Int)).toNat))) (((x57.1) 15 + 1 + 1 : Int)).toNat (33))) else ((k_u1 (k_u1 (x57.1) 15 ((x57.1) 15 + 1)) 15 ((x57.1) 15 + 1 + 1)), (k_u1 (k_u1 (x57.2) (((x57.1) 15 : Int)).toNat (32)) (((x57.1) 15 + 1 : Int)).toNat (48 + ((σ 124) (105 + 4 * p + (i57 : Int)).toNat))))
def r_writeTimetable_57_2 (σ : Nat → Nat → Int) (p : Int) (x57 : (Nat → Int) × (Nat → Int)) : Int × (Nat → Nat → Int) := ((x57.1) 15, (k_up (k_up σ 123 (k_u1 (x57.1) 7 (0))) 129 (x57.2)))
def b_writeTimetable_57_2 (σ : Nat → Nat → Int) (p : Int) (i57 : Nat) (x57 : (Nat → Int) × (Nat → Int)) : (Nat → Int) × (Nat → Int) := if ((σ 124) (105 + 4 * p + (i57 : Int)).toNat) = (-1) then if ((σ 124) (105 + 4 * p + (i57 : Int)).toNat) = (-1) then ((k_u1 (k_u1 (x57.1) 15 ((x57.1) 15 + 1)) 15 ((x57.1) 15 + 1 + 1)), (k_u1 (k_u1 (x57.2) (((x57.1) 15 : Int)).toNat (32)) (((x57.1) 15 + 1 : Int)).toNat (45))) else if ((σ 124) (105 + 4 * p + (i57 : Int)).toNat) = ((σ 124) (93 + p).toNat) then ((k_u1 (k_u1 (k_u1 (x57.1) 15 ((x57.1) 15 + 1)) 15 ((x57.1) 15 + 1 + 1)) 15 ((x57.1) 15 + 1 + 1 + 1)), (k_u1 (k_u1 (k_u1 (x57.2) (((x57.1) 15 : Int)).toNat (32)) (((x57.1) 15 + 1 : Int)).toNat (45)) (((x57.1) 15 + 1 + 1 : Int)).toNat (33))) else ((k_u1 (k_u1 (x57.1) 15 ((x57.1) 15 + 1)) 15 ((x57.1) 15 + 1 + 1)), (k_u1 (k_u1 (x57.2) (((x57.1) 15 : Int)).toNat (32)) (((x57.1) 15 + 1 : Int)).toNat (45))) else if ((σ 124) (105 + 4 * p + (i57 : Int)).toNat) = (-1) then ((k_u1 (k_u1 (x57.1) 15 ((x57.1) 15 + 1)) 15 ((x57.1) 15 + 1 + 1)), (k_u1 (k_u1 (x57.2) (((x57.1) 15 : Int)).toNat (32)) (((x57.1) 15 + 1 : Int)).toNat (48 + ((σ 124) (105 + 4 * p + (i57 : Int)).toNat)))) else if ((σ 124) (105 + 4 * p + (i57 : Int)).toNat) = ((σ 124) (93 + p).toNat) then ((k_u1 (k_u1 (k_u1 (x57.1) 15 ((x57.1) 15 + 1)) 15 ((x57.1) 15 + 1 + 1)) 15 ((x57.1) 15 + 1 + 1 + 1)), (k_u1 (k_u1 (k_u1 (x57.2) (((x57.1) 15 : Int)).toNat (32)) (((x57.1) 15 + 1 : Int)).toNat (48 + ((σ 124) (105 + 4 * p + (i57 : Int)).toNat))) (((x57.1) 15 + 1 + 1 : Int)).toNat (33))) else ((k_u1 (k_u1 (x57.1) 15 ((x57.1) 15 + 1)) 15 ((x57.1) 15 + 1 + 1)), (k_u1 (k_u1 (x57.2) (((x57.1) 15 : Int)).toNat (32)) (((x57.1) 15 + 1 : Int)).toNat (48 + ((σ 124) (105 + 4 * p + (i57 : Int)).toNat))))
def m_writeTimetable (σ : Nat → Nat → Int) (p : Int) : Int × (Nat → Nat → Int) := if 0 ≤ p ∧ p < (σ 124) 2 then if p ≤ 9 then (r_writeTimetable_57 σ p) (k_it (b_writeTimetable_57 σ p) (((σ 124) 1).toNat) 0 (((k_u1 (k_u1 (k_u1 (σ 123) 15 (0)) 15 (0 + 1)) 15 (0 + 1 + 1)), (k_u1 (k_u1 (σ 129) ((0 : Int)).toNat (48 + ((p) % (10)))) ((0 + 1 : Int)).toNat (58))))) else (r_writeTimetable_57_2 σ p) (k_it (b_writeTimetable_57_2 σ p) (((σ 124) 1).toNat) 0 (((k_u1 (k_u1 (k_u1 (k_u1 (σ 123) 15 (0)) 15 (0 + 1)) 15 (0 + 1 + 1)) 15 (0 + 1 + 1 + 1)), (k_u1 (k_u1 (k_u1 (σ 129) ((0 : Int)).toNat (48 + ((p) / (10)))) ((0 + 1 : Int)).toNat (48 + ((p) % (10)))) ((0 + 1 + 1 : Int)).toNat (58))))) else (0, (k_up σ 123 (k_u1 (σ 123) 7 (1))))
set_option maxRecDepth 100000 in
set_option maxHeartbeats 4000000 in
theorem c8_writeTimetable (hsh : k_Main sh) (hMA : k_MA σ) {p : Int} (h_p : -2147483648 ≤ p ∧ p < 2147483648) : k_C E mX8_writeTimetable 4 [.ref 123, .int (iI (p))] sh σ 0 0 ((k_pP sh R_writeTimetable) (m_writeTimetable σ p)) := by
  refine k_C_of (ls0 := [(0, .ref 123), (1, .int (iI (p)))]) rfl pnX8 (fun v hv => k_cat1 rfl hv) (Nat.le_of_ble_eq_true rfl) rfl ?_
  obtain ⟨⟨t0, t0b⟩, ⟨t1, t1b⟩, ⟨t2, t2b⟩, ⟨t3, t3b⟩, -⟩ := id hMA.2.1
  obtain ⟨⟨f77_0, g77_0⟩, ⟨f77_1, g77_1⟩, ⟨f77_2, g77_2⟩, ⟨f77_3, g77_3⟩, ⟨f77_4, g77_4⟩, ⟨f77_5, g77_5⟩, ⟨f77_6, g77_6⟩, ⟨f77_7, g77_7⟩, ⟨f77_8, g77_8⟩, ⟨f77_9, g77_9⟩, ⟨f77_10, g77_10⟩, ⟨f77_11, g77_11⟩, ⟨f77_12, g77_12⟩, ⟨f77_13, g77_13⟩⟩ := id hMA.1
  unfold m_writeTimetable
  refine k_aload_n dX8_writeTimetable_0 0 rfl rfl (by decide) ?_
  refine k_iload_n dX8_writeTimetable_1 1 rfl rfl ?_
  refine k_callVr (st := []) (as := [.int (iI (p))]) dX8_writeTimetable_2 oX8_isPupil w_1993 w_1995 w_49 rfl (by omega) rfl (Nat.le_of_ble_eq_true rfl) (by decide) (s_123 hsh) rfl (c8_isPupil (σ := σ) hsh (hMA).2.1 ⟨by omega, by omega⟩) ?_
  refine k_if_ne (tgt := 14) dX8_writeTimetable_5 rfl (zb_kr _) (fun h2 => ?_) (fun h2 => ?_)
  · have h2 := zb_n0.mp h2
    refine k_ift (F := (k_pP sh R_writeTimetable)) h2 ?_
    refine k_aload_n dX8_writeTimetable_14 0 rfl rfl (by decide) ?_
    refine k_iconst (v := 0) dX8_writeTimetable_15 rfl ?_
    refine k_putfW (kf := 15) dX8_writeTimetable_16 kcX8 w_1763 (by decide) (by decide) (s_123 hsh) rfl rfl rfl rfl ?_
    refine k_eqσ (σ' := (k_up σ 123 (k_u1 (σ 123) 15 (0)))) rfl ?_
    refine k_iload_n dX8_writeTimetable_19 1 rfl rfl ?_
    refine k_bipush (v := 9) dX8_writeTimetable_20 (by decide) ?_
    refine k_icmp_le (tgt := 37) dX8_writeTimetable_22 rfl ⟨by omega, by omega⟩ ⟨by decide, by decide⟩ (fun h3 => ?_) (fun h3 => ?_)
    · refine k_ift (F := (k_pP sh R_writeTimetable)) h3 ?_
      refine k_aload_n dX8_writeTimetable_37 0 rfl rfl (by decide) ?_
      refine k_bipush (v := 48) dX8_writeTimetable_38 (by decide) ?_
      refine k_iload_n dX8_writeTimetable_40 1 rfl rfl ?_
      refine k_bipush (v := 10) dX8_writeTimetable_41 (by decide) ?_
      refine k_irem (v := (iI ((p) % (10)))) dX8_writeTimetable_43 (z_ne0 (by omega) (by omega)) (z_remI (by omega) (by omega) (by omega) (by omega)) ?_
      refine k_iadd dX8_writeTimetable_44 ?_
      refine k_i2c (v := (iI (48 + ((p) % (10))))) dX8_writeTimetable_45 (k_nB (by omega)).2.2.1 ?_
      have q4 := k_nB (e := 48 + ((p) % (10))) (by omega)
      refine k_callVr (st := []) (as := [.int (iI (48 + ((p) % (10))))]) dX8_writeTimetable_46 oX8_writes w_2237 w_2239 w_79 rfl (by omega) rfl (Nat.le_of_ble_eq_true rfl) (by decide) (s_123 hsh) rfl (c8_writes (σ := (k_up σ 123 (k_u1 (σ 123) 15 (0)))) hsh (show 0 ≤ 0 ∧ 0 < 40 from by omega) (by omega)) ?_
      refine k_eqσ (σ' := (k_up (k_up σ 123 (k_u1 (k_u1 (σ 123) 15 (0)) 15 (0 + 1))) 129 (k_u1 (σ 129) ((0 : Int)).toNat (48 + ((p) % (10)))))) (((congrArg (fun s => k_up s 129 (k_u1 (σ 129) ((0 : Int)).toNat (48 + ((p) % (10))))) (show k_up (k_up σ 123 (k_u1 (σ 123) 15 (0))) 123 (k_u1 (k_u1 (σ 123) 15 (0)) 15 (0 + 1)) = (k_up σ 123 (k_u1 (k_u1 (σ 123) 15 (0)) 15 (0 + 1))) from k_up_up)).trans (show k_up (k_up σ 123 (k_u1 (k_u1 (σ 123) 15 (0)) 15 (0 + 1))) 129 (k_u1 (σ 129) ((0 : Int)).toNat (48 + ((p) % (10)))) = (k_up (k_up σ 123 (k_u1 (k_u1 (σ 123) 15 (0)) 15 (0 + 1))) 129 (k_u1 (σ 129) ((0 : Int)).toNat (48 + ((p) % (10))))) from rfl))).symm ?_
      refine k_aload_n dX8_writeTimetable_49 0 rfl rfl (by decide) ?_
      refine k_bipush (v := 58) dX8_writeTimetable_50 (by decide) ?_
      have q6 := k_nB (e := 58) (by omega)
      refine k_callVr (st := []) (as := [.int (iI (58))]) dX8_writeTimetable_52 oX8_writes w_2237 w_2239 w_79 rfl (by omega) rfl (Nat.le_of_ble_eq_true rfl) (by decide) (s_123 hsh) rfl (c8_writes (σ := (k_up (k_up σ 123 (k_u1 (k_u1 (σ 123) 15 (0)) 15 (0 + 1))) 129 (k_u1 (σ 129) ((0 : Int)).toNat (48 + ((p) % (10)))))) hsh (show 0 ≤ 0 + 1 ∧ 0 + 1 < 40 from by omega) (by omega)) ?_
      refine k_eqσ (σ' := (k_up (k_up σ 123 (k_u1 (k_u1 (k_u1 (σ 123) 15 (0)) 15 (0 + 1)) 15 (0 + 1 + 1))) 129 (k_u1 (k_u1 (σ 129) ((0 : Int)).toNat (48 + ((p) % (10)))) ((0 + 1 : Int)).toNat (58)))) (((congrArg (fun s => k_up s 129 (k_u1 (k_u1 (σ 129) ((0 : Int)).toNat (48 + ((p) % (10)))) ((0 + 1 : Int)).toNat (58))) (show k_up (k_up (k_up σ 123 (k_u1 (k_u1 (σ 123) 15 (0)) 15 (0 + 1))) 129 (k_u1 (σ 129) ((0 : Int)).toNat (48 + ((p) % (10))))) 123 (k_u1 (k_u1 (k_u1 (σ 123) 15 (0)) 15 (0 + 1)) 15 (0 + 1 + 1)) = (k_up (k_up σ 123 (k_u1 (k_u1 (k_u1 (σ 123) 15 (0)) 15 (0 + 1)) 15 (0 + 1 + 1))) 129 (k_u1 (σ 129) ((0 : Int)).toNat (48 + ((p) % (10))))) from ((k_up_comm (by decide)).trans (congrArg (fun s => k_up s 129 _) k_up_up)))).trans (show k_up (k_up (k_up σ 123 (k_u1 (k_u1 (k_u1 (σ 123) 15 (0)) 15 (0 + 1)) 15 (0 + 1 + 1))) 129 (k_u1 (σ 129) ((0 : Int)).toNat (48 + ((p) % (10))))) 129 (k_u1 (k_u1 (σ 129) ((0 : Int)).toNat (48 + ((p) % (10)))) ((0 + 1 : Int)).toNat (58)) = (k_up (k_up σ 123 (k_u1 (k_u1 (k_u1 (σ 123) 15 (0)) 15 (0 + 1)) 15 (0 + 1 + 1))) 129 (k_u1 (k_u1 (σ 129) ((0 : Int)).toNat (48 + ((p) % (10)))) ((0 + 1 : Int)).toNat (58))) from k_up_up))).symm ?_
      refine k_iconst (v := 0) dX8_writeTimetable_55 rfl ?_
      refine k_istore_n (ls' := [(0, .ref 123), (1, .int (iI (p))), (2, .int (iI (0)))]) dX8_writeTimetable_56 rfl (by decide) rfl rfl ?_
      refine k_loop (α := (Nat → Int) × (Nat → Int)) (P := fun (i57 : Nat) (x57 : (Nat → Int) × (Nat → Int)) Q => k_V E mX8_writeTimetable _ 57 [(0, .ref 123), (1, .int (iI (p))), (2, .int (iI ((i57 : Int))))] [] sh (k_up (k_up σ 123 (x57.1)) 129 (x57.2)) _ _ Q) (J := fun (i57 : Nat) (x57 : (Nat → Int) × (Nat → Int)) => (0 ≤ (x57.1) 15 ∧ (x57.1) 15 ≤ 3 + 3 * (i57 : Int)) ∧ ((k_F0 x57.1)) ∧ (k_rg 0 127 x57.2)) (((σ 124) 1).toNat) (b_writeTimetable_57 σ p) (((k_u1 (k_u1 (k_u1 (σ 123) 15 (0)) 15 (0 + 1)) 15 (0 + 1 + 1)), (k_u1 (k_u1 (σ 129) ((0 : Int)).toNat (48 + ((p) % (10)))) ((0 + 1 : Int)).toNat (58)))) (F := fun t => (k_pP sh R_writeTimetable) ((r_writeTimetable_57 σ p) t)) (show (0 ≤ ((k_u1 (k_u1 (k_u1 (σ 123) 15 (0)) 15 (0 + 1)) 15 (0 + 1 + 1))) 15 ∧ ((k_u1 (k_u1 (k_u1 (σ 123) 15 (0)) 15 (0 + 1)) 15 (0 + 1 + 1))) 15 ≤ 3 + 3 * ((0 : Nat) : Int)) ∧ ((k_F0 (k_u1 (k_u1 (k_u1 (σ 123) 15 (0)) 15 (0 + 1)) 15 (0 + 1 + 1)))) ∧ (k_rg 0 127 (k_u1 (k_u1 (σ 129) ((0 : Int)).toNat (48 + ((p) % (10)))) ((0 + 1 : Int)).toNat (58))) from ⟨(show 0 ≤ 0 + 1 + 1 ∧ 0 + 1 + 1 ≤ 3 + 3 * ((0 : Nat) : Int) from by omega), (show k_F0 (k_u1 (k_u1 (k_u1 (σ 123) 15 (0)) 15 (0 + 1)) 15 (0 + 1 + 1)) from (k_F0_u (show k_F0 (k_u1 (k_u1 (σ 123) 15 (0)) 15 (0 + 1)) from (k_F0_u (show k_F0 (k_u1 (σ 123) 15 (0)) from (k_F0_u (hMA).1 (by omega))) (by omega))) (by omega))), (show k_rg 0 127 (k_u1 (k_u1 (σ 129) ((0 : Int)).toNat (48 + ((p) % (10)))) ((0 + 1 : Int)).toNat (58)) from (k_rg_u (show k_rg 0 127 (k_u1 (σ 129) ((0 : Int)).toNat (48 + ((p) % (10)))) from (k_rg_u (hMA).2.2.1 (by omega))) (by omega)))⟩) ?_ ?_
      · intro x57 hJ57
        have hJ57 : (0 ≤ (x57.1) 15 ∧ (x57.1) 15 ≤ 3 + 3 * ((((σ 124) 1).toNat : Nat) : Int)) ∧ ((k_F0 x57.1)) ∧ (k_rg 0 127 x57.2) := hJ57
        obtain ⟨hU57, hW57_123, hW57_129⟩ := id hJ57
        obtain ⟨⟨f9_0, g9_0⟩, ⟨f9_1, g9_1⟩, ⟨f9_2, g9_2⟩, ⟨f9_3, g9_3⟩, ⟨f9_4, g9_4⟩, ⟨f9_5, g9_5⟩, ⟨f9_6, g9_6⟩, ⟨f9_7, g9_7⟩, ⟨f9_8, g9_8⟩, ⟨f9_9, g9_9⟩, ⟨f9_10, g9_10⟩, ⟨f9_11, g9_11⟩, ⟨f9_12, g9_12⟩, ⟨f9_13, g9_13⟩⟩ := id hW57_123
        show k_V E mX8_writeTimetable _ 57 [(0, .ref 123), (1, .int (iI (p))), (2, .int (iI (((((σ 124) 1).toNat : Nat) : Int))))] [] sh (k_up (k_up σ 123 (x57.1)) 129 (x57.2)) _ _ ((k_pP sh R_writeTimetable) ((r_writeTimetable_57 σ p) x57))
        unfold r_writeTimetable_57
        refine k_iload_n dX8_writeTimetable_57 2 rfl rfl ?_
        refine k_aload_n dX8_writeTimetable_58 0 rfl rfl (by decide) ?_
        refine k_get (kf := 0) (v := .ref 124) dX8_writeTimetable_59 kcX8 w_1748 (by decide) (by decide) (s_123 hsh) rfl rfl ?_
        refine k_iconst (v := 1) dX8_writeTimetable_62 rfl ?_
        refine k_iald dX8_writeTimetable_63 (by decide) (s_124 hsh) (by omega) (by omega) (by decide) ?_
        refine k_eqst (st' := [.int (iI ((σ 124) 1)), .int (iI (((((σ 124) 1).toNat : Nat) : Int)))]) rfl ?_
        refine k_icmp_ge (tgt := 129) dX8_writeTimetable_64 rfl ⟨by omega, by omega⟩ ⟨by omega, by omega⟩ (fun h10 => ?_) (fun h10 => absurd h10 (by omega))
        refine k_aload_n dX8_writeTimetable_129 0 rfl rfl (by decide) ?_
        refine k_aload_n dX8_writeTimetable_130 0 rfl rfl (by decide) ?_
        refine k_get (kf := 15) (v := .int (iI ((x57.1) 15))) dX8_writeTimetable_131 kcX8 w_1763 (by decide) (by decide) (s_123 hsh) rfl rfl ?_
        refine k_callVr (st := []) (as := [.int (iI ((x57.1) 15))]) dX8_writeTimetable_134 oX8_tells w_1855 w_1857 w_32 rfl (by omega) rfl (Nat.le_of_ble_eq_true rfl) (by decide) (s_123 hsh) rfl (c8_tells hsh) ?_
        refine k_eqσ (σ' := (k_up (k_up σ 123 (k_u1 (x57.1) 7 (0))) 129 (x57.2))) ((show k_up (k_up (k_up σ 123 (x57.1)) 129 (x57.2)) 123 (k_u1 (x57.1) 7 (0)) = (k_up (k_up σ 123 (k_u1 (x57.1) 7 (0))) 129 (x57.2)) from ((k_up_comm (by decide)).trans (congrArg (fun s => k_up s 129 _) k_up_up)))).symm ?_
        exact k_retiP dX8_writeTimetable_137 rfl rfl rfl (show (-1 ≤ (x57.1) 15 ∧ (x57.1) 15 ≤ 1000) ∧ k_MA (k_up (k_up σ 123 (k_u1 (x57.1) 7 (0))) 129 (x57.2)) from ⟨by omega, ⟨(show k_F0 (k_u1 (x57.1) 7 (0)) from (k_F0_u hW57_123 (by omega))), (hMA).2.1, hW57_129, (hMA).2.2.2.1, (hMA).2.2.2.2.1, (hMA).2.2.2.2.2.1, (hMA).2.2.2.2.2.2.1, (hMA).2.2.2.2.2.2.2.1, (hMA).2.2.2.2.2.2.2.2.1, (hMA).2.2.2.2.2.2.2.2.2.1, (hMA).2.2.2.2.2.2.2.2.2.2.1, (hMA).2.2.2.2.2.2.2.2.2.2.2.1, (hMA).2.2.2.2.2.2.2.2.2.2.2.2⟩⟩)
      · intro n57 i57 x57 hi57 hJ57 ih57
        have hJ57 : (0 ≤ (x57.1) 15 ∧ (x57.1) 15 ≤ 3 + 3 * (i57 : Int)) ∧ ((k_F0 x57.1)) ∧ (k_rg 0 127 x57.2) := hJ57
        obtain ⟨hU57, hW57_123, hW57_129⟩ := id hJ57
        obtain ⟨⟨f12_0, g12_0⟩, ⟨f12_1, g12_1⟩, ⟨f12_2, g12_2⟩, ⟨f12_3, g12_3⟩, ⟨f12_4, g12_4⟩, ⟨f12_5, g12_5⟩, ⟨f12_6, g12_6⟩, ⟨f12_7, g12_7⟩, ⟨f12_8, g12_8⟩, ⟨f12_9, g12_9⟩, ⟨f12_10, g12_10⟩, ⟨f12_11, g12_11⟩, ⟨f12_12, g12_12⟩, ⟨f12_13, g12_13⟩⟩ := id hW57_123
        show k_V E mX8_writeTimetable _ 57 [(0, .ref 123), (1, .int (iI (p))), (2, .int (iI ((i57 : Int))))] [] sh (k_up (k_up σ 123 (x57.1)) 129 (x57.2)) _ _ ((fun t => (k_pP sh R_writeTimetable) ((r_writeTimetable_57 σ p) (k_it (b_writeTimetable_57 σ p) n57 (i57 + 1) t))) ((b_writeTimetable_57 σ p) i57 x57))
        unfold b_writeTimetable_57
        refine k_iload_n dX8_writeTimetable_57 2 rfl rfl ?_
        refine k_aload_n dX8_writeTimetable_58 0 rfl rfl (by decide) ?_
        refine k_get (kf := 0) (v := .ref 124) dX8_writeTimetable_59 kcX8 w_1748 (by decide) (by decide) (s_123 hsh) rfl rfl ?_
        refine k_iconst (v := 1) dX8_writeTimetable_62 rfl ?_
        refine k_iald dX8_writeTimetable_63 (by decide) (s_124 hsh) (by omega) (by omega) (by decide) ?_
        refine k_eqst (st' := [.int (iI ((σ 124) 1)), .int (iI ((i57 : Int)))]) rfl ?_
        refine k_icmp_ge (tgt := 129) dX8_writeTimetable_64 rfl ⟨by omega, by omega⟩ ⟨by omega, by omega⟩ (fun h13 => absurd h13 (by omega)) (fun h13 => ?_)
        refine k_aload_n dX8_writeTimetable_67 0 rfl rfl (by decide) ?_
        refine k_iload_n dX8_writeTimetable_68 1 rfl rfl ?_
        refine k_iload_n dX8_writeTimetable_69 2 rfl rfl ?_
        refine k_callVr (st := []) (as := [.int (iI (p)), .int (iI ((i57 : Int)))]) dX8_writeTimetable_70 oX8_subjectOf w_1909 w_1911 w_40 rfl (by omega) rfl (Nat.le_of_ble_eq_true rfl) (by decide) (s_123 hsh) rfl (c8_subjectOf (σ := (k_up (k_up σ 123 (x57.1)) 129 (x57.2))) hsh (hMA).2.1 (by omega) (by omega)) ?_
        refine k_eqst (st' := [.int (iI ((σ 124) (105 + 4 * p + (i57 : Int)).toNat))]) rfl ?_
        have q14 := k_Mo_tab (hMA).2.1 (x := 105 + 4 * p + (i57 : Int)) (by omega) (by omega)
        refine k_istore_n (ls' := [(0, .ref 123), (1, .int (iI (p))), (2, .int (iI ((i57 : Int)))), (3, .int (iI ((σ 124) (105 + 4 * p + (i57 : Int)).toNat)))]) dX8_writeTimetable_73 rfl (by decide) rfl rfl ?_
        refine k_aload_n dX8_writeTimetable_74 0 rfl rfl (by decide) ?_
        refine k_bipush (v := 32) dX8_writeTimetable_75 (by decide) ?_
        have q16 := k_nB (e := 32) (by omega)
        refine k_callVr (st := []) (as := [.int (iI (32))]) dX8_writeTimetable_77 oX8_writes w_2237 w_2239 w_79 rfl (by omega) rfl (Nat.le_of_ble_eq_true rfl) (by decide) (s_123 hsh) rfl (c8_writes (σ := (k_up (k_up σ 123 (x57.1)) 129 (x57.2))) hsh (show 0 ≤ (x57.1) 15 ∧ (x57.1) 15 < 40 from by omega) (by omega)) ?_
        refine k_eqσ (σ' := (k_up (k_up σ 123 (k_u1 (x57.1) 15 ((x57.1) 15 + 1))) 129 (k_u1 (x57.2) (((x57.1) 15 : Int)).toNat (32)))) (((congrArg (fun s => k_up s 129 (k_u1 (x57.2) (((x57.1) 15 : Int)).toNat (32))) (show k_up (k_up (k_up σ 123 (x57.1)) 129 (x57.2)) 123 (k_u1 (x57.1) 15 ((x57.1) 15 + 1)) = (k_up (k_up σ 123 (k_u1 (x57.1) 15 ((x57.1) 15 + 1))) 129 (x57.2)) from ((k_up_comm (by decide)).trans (congrArg (fun s => k_up s 129 _) k_up_up)))).trans (show k_up (k_up (k_up σ 123 (k_u1 (x57.1) 15 ((x57.1) 15 + 1))) 129 (x57.2)) 129 (k_u1 (x57.2) (((x57.1) 15 : Int)).toNat (32)) = (k_up (k_up σ 123 (k_u1 (x57.1) 15 ((x57.1) 15 + 1))) 129 (k_u1 (x57.2) (((x57.1) 15 : Int)).toNat (32))) from k_up_up))).symm ?_
        refine k_aload_n dX8_writeTimetable_80 0 rfl rfl (by decide) ?_
        refine k_iload_n dX8_writeTimetable_81 3 rfl rfl ?_
        refine k_iconst (v := (-1)) dX8_writeTimetable_82 rfl ?_
        refine k_icmp_ne (tgt := 91) dX8_writeTimetable_83 rfl ⟨by omega, by omega⟩ ⟨by decide, by decide⟩ (fun h18 => ?_) (fun h18 => ?_)
        · refine k_iff (F := (fun t => (k_pP sh R_writeTimetable) ((r_writeTimetable_57 σ p) (k_it (b_writeTimetable_57 σ p) n57 (i57 + 1) t)))) h18 ?_
          refine k_bipush (v := 48) dX8_writeTimetable_91 (by decide) ?_
          refine k_iload_n dX8_writeTimetable_93 3 rfl rfl ?_
          refine k_iadd dX8_writeTimetable_94 ?_
          refine k_i2c (v := (iI (48 + ((σ 124) (105 + 4 * p + (i57 : Int)).toNat)))) dX8_writeTimetable_95 (k_nB (by omega)).2.2.1 ?_
          have q19 := k_nB (e := 48 + ((σ 124) (105 + 4 * p + (i57 : Int)).toNat)) (by omega)
          refine k_callVr (st := []) (as := [.int (iI (48 + ((σ 124) (105 + 4 * p + (i57 : Int)).toNat)))]) dX8_writeTimetable_96 oX8_writes w_2237 w_2239 w_79 rfl (by omega) rfl (Nat.le_of_ble_eq_true rfl) (by decide) (s_123 hsh) rfl (c8_writes (σ := (k_up (k_up σ 123 (k_u1 (x57.1) 15 ((x57.1) 15 + 1))) 129 (k_u1 (x57.2) (((x57.1) 15 : Int)).toNat (32)))) hsh (show 0 ≤ (x57.1) 15 + 1 ∧ (x57.1) 15 + 1 < 40 from by omega) (by omega)) ?_
          refine k_eqσ (σ' := (k_up (k_up σ 123 (k_u1 (k_u1 (x57.1) 15 ((x57.1) 15 + 1)) 15 ((x57.1) 15 + 1 + 1))) 129 (k_u1 (k_u1 (x57.2) (((x57.1) 15 : Int)).toNat (32)) (((x57.1) 15 + 1 : Int)).toNat (48 + ((σ 124) (105 + 4 * p + (i57 : Int)).toNat))))) (((congrArg (fun s => k_up s 129 (k_u1 (k_u1 (x57.2) (((x57.1) 15 : Int)).toNat (32)) (((x57.1) 15 + 1 : Int)).toNat (48 + ((σ 124) (105 + 4 * p + (i57 : Int)).toNat)))) (show k_up (k_up (k_up σ 123 (k_u1 (x57.1) 15 ((x57.1) 15 + 1))) 129 (k_u1 (x57.2) (((x57.1) 15 : Int)).toNat (32))) 123 (k_u1 (k_u1 (x57.1) 15 ((x57.1) 15 + 1)) 15 ((x57.1) 15 + 1 + 1)) = (k_up (k_up σ 123 (k_u1 (k_u1 (x57.1) 15 ((x57.1) 15 + 1)) 15 ((x57.1) 15 + 1 + 1))) 129 (k_u1 (x57.2) (((x57.1) 15 : Int)).toNat (32))) from ((k_up_comm (by decide)).trans (congrArg (fun s => k_up s 129 _) k_up_up)))).trans (show k_up (k_up (k_up σ 123 (k_u1 (k_u1 (x57.1) 15 ((x57.1) 15 + 1)) 15 ((x57.1) 15 + 1 + 1))) 129 (k_u1 (x57.2) (((x57.1) 15 : Int)).toNat (32))) 129 (k_u1 (k_u1 (x57.2) (((x57.1) 15 : Int)).toNat (32)) (((x57.1) 15 + 1 : Int)).toNat (48 + ((σ 124) (105 + 4 * p + (i57 : Int)).toNat))) = (k_up (k_up σ 123 (k_u1 (k_u1 (x57.1) 15 ((x57.1) 15 + 1)) 15 ((x57.1) 15 + 1 + 1))) 129 (k_u1 (k_u1 (x57.2) (((x57.1) 15 : Int)).toNat (32)) (((x57.1) 15 + 1 : Int)).toNat (48 + ((σ 124) (105 + 4 * p + (i57 : Int)).toNat)))) from k_up_up))).symm ?_
          refine k_iload_n dX8_writeTimetable_99 3 rfl rfl ?_
          refine k_iconst (v := (-1)) dX8_writeTimetable_100 rfl ?_
          refine k_icmp_eq (tgt := 123) dX8_writeTimetable_101 rfl ⟨by omega, by omega⟩ ⟨by decide, by decide⟩ (fun h21 => ?_) (fun h21 => ?_)
          · refine k_ift (F := (fun t => (k_pP sh R_writeTimetable) ((r_writeTimetable_57 σ p) (k_it (b_writeTimetable_57 σ p) n57 (i57 + 1) t)))) h21 ?_
            refine k_iinc (ls' := [(0, .ref 123), (1, .int (iI (p))), (2, .int (iI ((i57 : Int) + 1))), (3, .int (iI ((σ 124) (105 + 4 * p + (i57 : Int)).toNat)))]) dX8_writeTimetable_123 2 rfl (by decide) rfl rfl ?_
            refine k_goto (tgt := 57) dX8_writeTimetable_126 rfl ?_
            refine k_dropr (ls' := [(0, .ref 123), (1, .int (iI (p))), (2, .int (iI ((i57 : Int) + 1)))]) (ex := [(3, .int (iI ((σ 124) (105 + 4 * p + (i57 : Int)).toNat)))]) rfl ?_
            have y22 : (k_u1 (k_u1 (x57.1) 15 ((x57.1) 15 + 1)) 15 ((x57.1) 15 + 1 + 1)) 15 = (x57.1) 15 + 1 + 1 := rfl
            exact ih57 (((k_u1 (k_u1 (x57.1) 15 ((x57.1) 15 + 1)) 15 ((x57.1) 15 + 1 + 1)), (k_u1 (k_u1 (x57.2) (((x57.1) 15 : Int)).toNat (32)) (((x57.1) 15 + 1 : Int)).toNat (48 + ((σ 124) (105 + 4 * p + (i57 : Int)).toNat))))) (show (0 ≤ ((k_u1 (k_u1 (x57.1) 15 ((x57.1) 15 + 1)) 15 ((x57.1) 15 + 1 + 1))) 15 ∧ ((k_u1 (k_u1 (x57.1) 15 ((x57.1) 15 + 1)) 15 ((x57.1) 15 + 1 + 1))) 15 ≤ 3 + 3 * ((i57 + 1 : Nat) : Int)) ∧ ((k_F0 (k_u1 (k_u1 (x57.1) 15 ((x57.1) 15 + 1)) 15 ((x57.1) 15 + 1 + 1)))) ∧ (k_rg 0 127 (k_u1 (k_u1 (x57.2) (((x57.1) 15 : Int)).toNat (32)) (((x57.1) 15 + 1 : Int)).toNat (48 + ((σ 124) (105 + 4 * p + (i57 : Int)).toNat)))) from ⟨(by omega), (show k_F0 (k_u1 (k_u1 (x57.1) 15 ((x57.1) 15 + 1)) 15 ((x57.1) 15 + 1 + 1)) from (k_F0_u (show k_F0 (k_u1 (x57.1) 15 ((x57.1) 15 + 1)) from (k_F0_u hW57_123 (by omega))) (by omega))), (show k_rg 0 127 (k_u1 (k_u1 (x57.2) (((x57.1) 15 : Int)).toNat (32)) (((x57.1) 15 + 1 : Int)).toNat (48 + ((σ 124) (105 + 4 * p + (i57 : Int)).toNat))) from (k_rg_u (show k_rg 0 127 (k_u1 (x57.2) (((x57.1) 15 : Int)).toNat (32)) from (k_rg_u hW57_129 (by omega))) (by omega)))⟩)
          · refine k_iff (F := (fun t => (k_pP sh R_writeTimetable) ((r_writeTimetable_57 σ p) (k_it (b_writeTimetable_57 σ p) n57 (i57 + 1) t)))) h21 ?_
            refine k_iload_n dX8_writeTimetable_104 3 rfl rfl ?_
            refine k_aload_n dX8_writeTimetable_105 0 rfl rfl (by decide) ?_
            refine k_get (kf := 0) (v := .ref 124) dX8_writeTimetable_106 kcX8 w_1748 (by decide) (by decide) (s_123 hsh) rfl rfl ?_
            refine k_bipush (v := 93) dX8_writeTimetable_109 (by decide) ?_
            refine k_iload_n dX8_writeTimetable_111 1 rfl rfl ?_
            refine k_iadd dX8_writeTimetable_112 ?_
            refine k_iald dX8_writeTimetable_113 (by decide) (s_124 hsh) (by omega) (by omega) (by decide) ?_
            refine k_eqst (st' := [.int (iI ((σ 124) (93 + p).toNat)), .int (iI ((σ 124) (105 + 4 * p + (i57 : Int)).toNat))]) rfl ?_
            have q23 := k_Mo_res (hMA).2.1 (x := 93 + p) (by omega) (by omega)
            refine k_icmp_ne (tgt := 123) dX8_writeTimetable_114 rfl ⟨by omega, by omega⟩ ⟨by omega, by omega⟩ (fun h24 => ?_) (fun h24 => ?_)
            · refine k_iff (F := (fun t => (k_pP sh R_writeTimetable) ((r_writeTimetable_57 σ p) (k_it (b_writeTimetable_57 σ p) n57 (i57 + 1) t)))) h24 ?_
              refine k_iinc (ls' := [(0, .ref 123), (1, .int (iI (p))), (2, .int (iI ((i57 : Int) + 1))), (3, .int (iI ((σ 124) (105 + 4 * p + (i57 : Int)).toNat)))]) dX8_writeTimetable_123 2 rfl (by decide) rfl rfl ?_
              refine k_goto (tgt := 57) dX8_writeTimetable_126 rfl ?_
              refine k_dropr (ls' := [(0, .ref 123), (1, .int (iI (p))), (2, .int (iI ((i57 : Int) + 1)))]) (ex := [(3, .int (iI ((σ 124) (105 + 4 * p + (i57 : Int)).toNat)))]) rfl ?_
              have y25 : (k_u1 (k_u1 (x57.1) 15 ((x57.1) 15 + 1)) 15 ((x57.1) 15 + 1 + 1)) 15 = (x57.1) 15 + 1 + 1 := rfl
              exact ih57 (((k_u1 (k_u1 (x57.1) 15 ((x57.1) 15 + 1)) 15 ((x57.1) 15 + 1 + 1)), (k_u1 (k_u1 (x57.2) (((x57.1) 15 : Int)).toNat (32)) (((x57.1) 15 + 1 : Int)).toNat (48 + ((σ 124) (105 + 4 * p + (i57 : Int)).toNat))))) (show (0 ≤ ((k_u1 (k_u1 (x57.1) 15 ((x57.1) 15 + 1)) 15 ((x57.1) 15 + 1 + 1))) 15 ∧ ((k_u1 (k_u1 (x57.1) 15 ((x57.1) 15 + 1)) 15 ((x57.1) 15 + 1 + 1))) 15 ≤ 3 + 3 * ((i57 + 1 : Nat) : Int)) ∧ ((k_F0 (k_u1 (k_u1 (x57.1) 15 ((x57.1) 15 + 1)) 15 ((x57.1) 15 + 1 + 1)))) ∧ (k_rg 0 127 (k_u1 (k_u1 (x57.2) (((x57.1) 15 : Int)).toNat (32)) (((x57.1) 15 + 1 : Int)).toNat (48 + ((σ 124) (105 + 4 * p + (i57 : Int)).toNat)))) from ⟨(by omega), (show k_F0 (k_u1 (k_u1 (x57.1) 15 ((x57.1) 15 + 1)) 15 ((x57.1) 15 + 1 + 1)) from (k_F0_u (show k_F0 (k_u1 (x57.1) 15 ((x57.1) 15 + 1)) from (k_F0_u hW57_123 (by omega))) (by omega))), (show k_rg 0 127 (k_u1 (k_u1 (x57.2) (((x57.1) 15 : Int)).toNat (32)) (((x57.1) 15 + 1 : Int)).toNat (48 + ((σ 124) (105 + 4 * p + (i57 : Int)).toNat))) from (k_rg_u (show k_rg 0 127 (k_u1 (x57.2) (((x57.1) 15 : Int)).toNat (32)) from (k_rg_u hW57_129 (by omega))) (by omega)))⟩)
            · refine k_ift (F := (fun t => (k_pP sh R_writeTimetable) ((r_writeTimetable_57 σ p) (k_it (b_writeTimetable_57 σ p) n57 (i57 + 1) t)))) h24 ?_
              refine k_aload_n dX8_writeTimetable_117 0 rfl rfl (by decide) ?_
              refine k_bipush (v := 33) dX8_writeTimetable_118 (by decide) ?_
              have q26 := k_nB (e := 33) (by omega)
              refine k_callVr (st := []) (as := [.int (iI (33))]) dX8_writeTimetable_120 oX8_writes w_2237 w_2239 w_79 rfl (by omega) rfl (Nat.le_of_ble_eq_true rfl) (by decide) (s_123 hsh) rfl (c8_writes (σ := (k_up (k_up σ 123 (k_u1 (k_u1 (x57.1) 15 ((x57.1) 15 + 1)) 15 ((x57.1) 15 + 1 + 1))) 129 (k_u1 (k_u1 (x57.2) (((x57.1) 15 : Int)).toNat (32)) (((x57.1) 15 + 1 : Int)).toNat (48 + ((σ 124) (105 + 4 * p + (i57 : Int)).toNat))))) hsh (show 0 ≤ (x57.1) 15 + 1 + 1 ∧ (x57.1) 15 + 1 + 1 < 40 from by omega) (by omega)) ?_
              refine k_eqσ (σ' := (k_up (k_up σ 123 (k_u1 (k_u1 (k_u1 (x57.1) 15 ((x57.1) 15 + 1)) 15 ((x57.1) 15 + 1 + 1)) 15 ((x57.1) 15 + 1 + 1 + 1))) 129 (k_u1 (k_u1 (k_u1 (x57.2) (((x57.1) 15 : Int)).toNat (32)) (((x57.1) 15 + 1 : Int)).toNat (48 + ((σ 124) (105 + 4 * p + (i57 : Int)).toNat))) (((x57.1) 15 + 1 + 1 : Int)).toNat (33)))) (((congrArg (fun s => k_up s 129 (k_u1 (k_u1 (k_u1 (x57.2) (((x57.1) 15 : Int)).toNat (32)) (((x57.1) 15 + 1 : Int)).toNat (48 + ((σ 124) (105 + 4 * p + (i57 : Int)).toNat))) (((x57.1) 15 + 1 + 1 : Int)).toNat (33))) (show k_up (k_up (k_up σ 123 (k_u1 (k_u1 (x57.1) 15 ((x57.1) 15 + 1)) 15 ((x57.1) 15 + 1 + 1))) 129 (k_u1 (k_u1 (x57.2) (((x57.1) 15 : Int)).toNat (32)) (((x57.1) 15 + 1 : Int)).toNat (48 + ((σ 124) (105 + 4 * p + (i57 : Int)).toNat)))) 123 (k_u1 (k_u1 (k_u1 (x57.1) 15 ((x57.1) 15 + 1)) 15 ((x57.1) 15 + 1 + 1)) 15 ((x57.1) 15 + 1 + 1 + 1)) = (k_up (k_up σ 123 (k_u1 (k_u1 (k_u1 (x57.1) 15 ((x57.1) 15 + 1)) 15 ((x57.1) 15 + 1 + 1)) 15 ((x57.1) 15 + 1 + 1 + 1))) 129 (k_u1 (k_u1 (x57.2) (((x57.1) 15 : Int)).toNat (32)) (((x57.1) 15 + 1 : Int)).toNat (48 + ((σ 124) (105 + 4 * p + (i57 : Int)).toNat)))) from ((k_up_comm (by decide)).trans (congrArg (fun s => k_up s 129 _) k_up_up)))).trans (show k_up (k_up (k_up σ 123 (k_u1 (k_u1 (k_u1 (x57.1) 15 ((x57.1) 15 + 1)) 15 ((x57.1) 15 + 1 + 1)) 15 ((x57.1) 15 + 1 + 1 + 1))) 129 (k_u1 (k_u1 (x57.2) (((x57.1) 15 : Int)).toNat (32)) (((x57.1) 15 + 1 : Int)).toNat (48 + ((σ 124) (105 + 4 * p + (i57 : Int)).toNat)))) 129 (k_u1 (k_u1 (k_u1 (x57.2) (((x57.1) 15 : Int)).toNat (32)) (((x57.1) 15 + 1 : Int)).toNat (48 + ((σ 124) (105 + 4 * p + (i57 : Int)).toNat))) (((x57.1) 15 + 1 + 1 : Int)).toNat (33)) = (k_up (k_up σ 123 (k_u1 (k_u1 (k_u1 (x57.1) 15 ((x57.1) 15 + 1)) 15 ((x57.1) 15 + 1 + 1)) 15 ((x57.1) 15 + 1 + 1 + 1))) 129 (k_u1 (k_u1 (k_u1 (x57.2) (((x57.1) 15 : Int)).toNat (32)) (((x57.1) 15 + 1 : Int)).toNat (48 + ((σ 124) (105 + 4 * p + (i57 : Int)).toNat))) (((x57.1) 15 + 1 + 1 : Int)).toNat (33))) from k_up_up))).symm ?_
              refine k_iinc (ls' := [(0, .ref 123), (1, .int (iI (p))), (2, .int (iI ((i57 : Int) + 1))), (3, .int (iI ((σ 124) (105 + 4 * p + (i57 : Int)).toNat)))]) dX8_writeTimetable_123 2 rfl (by decide) rfl rfl ?_
              refine k_goto (tgt := 57) dX8_writeTimetable_126 rfl ?_
              refine k_dropr (ls' := [(0, .ref 123), (1, .int (iI (p))), (2, .int (iI ((i57 : Int) + 1)))]) (ex := [(3, .int (iI ((σ 124) (105 + 4 * p + (i57 : Int)).toNat)))]) rfl ?_
              have y28 : (k_u1 (k_u1 (k_u1 (x57.1) 15 ((x57.1) 15 + 1)) 15 ((x57.1) 15 + 1 + 1)) 15 ((x57.1) 15 + 1 + 1 + 1)) 15 = (x57.1) 15 + 1 + 1 + 1 := rfl
              exact ih57 (((k_u1 (k_u1 (k_u1 (x57.1) 15 ((x57.1) 15 + 1)) 15 ((x57.1) 15 + 1 + 1)) 15 ((x57.1) 15 + 1 + 1 + 1)), (k_u1 (k_u1 (k_u1 (x57.2) (((x57.1) 15 : Int)).toNat (32)) (((x57.1) 15 + 1 : Int)).toNat (48 + ((σ 124) (105 + 4 * p + (i57 : Int)).toNat))) (((x57.1) 15 + 1 + 1 : Int)).toNat (33)))) (show (0 ≤ ((k_u1 (k_u1 (k_u1 (x57.1) 15 ((x57.1) 15 + 1)) 15 ((x57.1) 15 + 1 + 1)) 15 ((x57.1) 15 + 1 + 1 + 1))) 15 ∧ ((k_u1 (k_u1 (k_u1 (x57.1) 15 ((x57.1) 15 + 1)) 15 ((x57.1) 15 + 1 + 1)) 15 ((x57.1) 15 + 1 + 1 + 1))) 15 ≤ 3 + 3 * ((i57 + 1 : Nat) : Int)) ∧ ((k_F0 (k_u1 (k_u1 (k_u1 (x57.1) 15 ((x57.1) 15 + 1)) 15 ((x57.1) 15 + 1 + 1)) 15 ((x57.1) 15 + 1 + 1 + 1)))) ∧ (k_rg 0 127 (k_u1 (k_u1 (k_u1 (x57.2) (((x57.1) 15 : Int)).toNat (32)) (((x57.1) 15 + 1 : Int)).toNat (48 + ((σ 124) (105 + 4 * p + (i57 : Int)).toNat))) (((x57.1) 15 + 1 + 1 : Int)).toNat (33))) from ⟨(by omega), (show k_F0 (k_u1 (k_u1 (k_u1 (x57.1) 15 ((x57.1) 15 + 1)) 15 ((x57.1) 15 + 1 + 1)) 15 ((x57.1) 15 + 1 + 1 + 1)) from (k_F0_u (show k_F0 (k_u1 (k_u1 (x57.1) 15 ((x57.1) 15 + 1)) 15 ((x57.1) 15 + 1 + 1)) from (k_F0_u (show k_F0 (k_u1 (x57.1) 15 ((x57.1) 15 + 1)) from (k_F0_u hW57_123 (by omega))) (by omega))) (by omega))), (show k_rg 0 127 (k_u1 (k_u1 (k_u1 (x57.2) (((x57.1) 15 : Int)).toNat (32)) (((x57.1) 15 + 1 : Int)).toNat (48 + ((σ 124) (105 + 4 * p + (i57 : Int)).toNat))) (((x57.1) 15 + 1 + 1 : Int)).toNat (33)) from (k_rg_u (show k_rg 0 127 (k_u1 (k_u1 (x57.2) (((x57.1) 15 : Int)).toNat (32)) (((x57.1) 15 + 1 : Int)).toNat (48 + ((σ 124) (105 + 4 * p + (i57 : Int)).toNat))) from (k_rg_u (show k_rg 0 127 (k_u1 (x57.2) (((x57.1) 15 : Int)).toNat (32)) from (k_rg_u hW57_129 (by omega))) (by omega))) (by omega)))⟩)
        · refine k_ift (F := (fun t => (k_pP sh R_writeTimetable) ((r_writeTimetable_57 σ p) (k_it (b_writeTimetable_57 σ p) n57 (i57 + 1) t)))) h18 ?_
          refine k_bipush (v := 45) dX8_writeTimetable_86 (by decide) ?_
          refine k_goto (tgt := 96) dX8_writeTimetable_88 rfl ?_
          have q29 := k_nB (e := 45) (by omega)
          refine k_callVr (st := []) (as := [.int (iI (45))]) dX8_writeTimetable_96 oX8_writes w_2237 w_2239 w_79 rfl (by omega) rfl (Nat.le_of_ble_eq_true rfl) (by decide) (s_123 hsh) rfl (c8_writes (σ := (k_up (k_up σ 123 (k_u1 (x57.1) 15 ((x57.1) 15 + 1))) 129 (k_u1 (x57.2) (((x57.1) 15 : Int)).toNat (32)))) hsh (show 0 ≤ (x57.1) 15 + 1 ∧ (x57.1) 15 + 1 < 40 from by omega) (by omega)) ?_
          refine k_eqσ (σ' := (k_up (k_up σ 123 (k_u1 (k_u1 (x57.1) 15 ((x57.1) 15 + 1)) 15 ((x57.1) 15 + 1 + 1))) 129 (k_u1 (k_u1 (x57.2) (((x57.1) 15 : Int)).toNat (32)) (((x57.1) 15 + 1 : Int)).toNat (45)))) (((congrArg (fun s => k_up s 129 (k_u1 (k_u1 (x57.2) (((x57.1) 15 : Int)).toNat (32)) (((x57.1) 15 + 1 : Int)).toNat (45))) (show k_up (k_up (k_up σ 123 (k_u1 (x57.1) 15 ((x57.1) 15 + 1))) 129 (k_u1 (x57.2) (((x57.1) 15 : Int)).toNat (32))) 123 (k_u1 (k_u1 (x57.1) 15 ((x57.1) 15 + 1)) 15 ((x57.1) 15 + 1 + 1)) = (k_up (k_up σ 123 (k_u1 (k_u1 (x57.1) 15 ((x57.1) 15 + 1)) 15 ((x57.1) 15 + 1 + 1))) 129 (k_u1 (x57.2) (((x57.1) 15 : Int)).toNat (32))) from ((k_up_comm (by decide)).trans (congrArg (fun s => k_up s 129 _) k_up_up)))).trans (show k_up (k_up (k_up σ 123 (k_u1 (k_u1 (x57.1) 15 ((x57.1) 15 + 1)) 15 ((x57.1) 15 + 1 + 1))) 129 (k_u1 (x57.2) (((x57.1) 15 : Int)).toNat (32))) 129 (k_u1 (k_u1 (x57.2) (((x57.1) 15 : Int)).toNat (32)) (((x57.1) 15 + 1 : Int)).toNat (45)) = (k_up (k_up σ 123 (k_u1 (k_u1 (x57.1) 15 ((x57.1) 15 + 1)) 15 ((x57.1) 15 + 1 + 1))) 129 (k_u1 (k_u1 (x57.2) (((x57.1) 15 : Int)).toNat (32)) (((x57.1) 15 + 1 : Int)).toNat (45))) from k_up_up))).symm ?_
          refine k_iload_n dX8_writeTimetable_99 3 rfl rfl ?_
          refine k_iconst (v := (-1)) dX8_writeTimetable_100 rfl ?_
          refine k_icmp_eq (tgt := 123) dX8_writeTimetable_101 rfl ⟨by omega, by omega⟩ ⟨by decide, by decide⟩ (fun h31 => ?_) (fun h31 => ?_)
          · refine k_ift (F := (fun t => (k_pP sh R_writeTimetable) ((r_writeTimetable_57 σ p) (k_it (b_writeTimetable_57 σ p) n57 (i57 + 1) t)))) h31 ?_
            refine k_iinc (ls' := [(0, .ref 123), (1, .int (iI (p))), (2, .int (iI ((i57 : Int) + 1))), (3, .int (iI ((σ 124) (105 + 4 * p + (i57 : Int)).toNat)))]) dX8_writeTimetable_123 2 rfl (by decide) rfl rfl ?_
            refine k_goto (tgt := 57) dX8_writeTimetable_126 rfl ?_
            refine k_dropr (ls' := [(0, .ref 123), (1, .int (iI (p))), (2, .int (iI ((i57 : Int) + 1)))]) (ex := [(3, .int (iI ((σ 124) (105 + 4 * p + (i57 : Int)).toNat)))]) rfl ?_
            have y32 : (k_u1 (k_u1 (x57.1) 15 ((x57.1) 15 + 1)) 15 ((x57.1) 15 + 1 + 1)) 15 = (x57.1) 15 + 1 + 1 := rfl
            exact ih57 (((k_u1 (k_u1 (x57.1) 15 ((x57.1) 15 + 1)) 15 ((x57.1) 15 + 1 + 1)), (k_u1 (k_u1 (x57.2) (((x57.1) 15 : Int)).toNat (32)) (((x57.1) 15 + 1 : Int)).toNat (45)))) (show (0 ≤ ((k_u1 (k_u1 (x57.1) 15 ((x57.1) 15 + 1)) 15 ((x57.1) 15 + 1 + 1))) 15 ∧ ((k_u1 (k_u1 (x57.1) 15 ((x57.1) 15 + 1)) 15 ((x57.1) 15 + 1 + 1))) 15 ≤ 3 + 3 * ((i57 + 1 : Nat) : Int)) ∧ ((k_F0 (k_u1 (k_u1 (x57.1) 15 ((x57.1) 15 + 1)) 15 ((x57.1) 15 + 1 + 1)))) ∧ (k_rg 0 127 (k_u1 (k_u1 (x57.2) (((x57.1) 15 : Int)).toNat (32)) (((x57.1) 15 + 1 : Int)).toNat (45))) from ⟨(by omega), (show k_F0 (k_u1 (k_u1 (x57.1) 15 ((x57.1) 15 + 1)) 15 ((x57.1) 15 + 1 + 1)) from (k_F0_u (show k_F0 (k_u1 (x57.1) 15 ((x57.1) 15 + 1)) from (k_F0_u hW57_123 (by omega))) (by omega))), (show k_rg 0 127 (k_u1 (k_u1 (x57.2) (((x57.1) 15 : Int)).toNat (32)) (((x57.1) 15 + 1 : Int)).toNat (45)) from (k_rg_u (show k_rg 0 127 (k_u1 (x57.2) (((x57.1) 15 : Int)).toNat (32)) from (k_rg_u hW57_129 (by omega))) (by omega)))⟩)
          · refine k_iff (F := (fun t => (k_pP sh R_writeTimetable) ((r_writeTimetable_57 σ p) (k_it (b_writeTimetable_57 σ p) n57 (i57 + 1) t)))) h31 ?_
            refine k_iload_n dX8_writeTimetable_104 3 rfl rfl ?_
            refine k_aload_n dX8_writeTimetable_105 0 rfl rfl (by decide) ?_
            refine k_get (kf := 0) (v := .ref 124) dX8_writeTimetable_106 kcX8 w_1748 (by decide) (by decide) (s_123 hsh) rfl rfl ?_
            refine k_bipush (v := 93) dX8_writeTimetable_109 (by decide) ?_
            refine k_iload_n dX8_writeTimetable_111 1 rfl rfl ?_
            refine k_iadd dX8_writeTimetable_112 ?_
            refine k_iald dX8_writeTimetable_113 (by decide) (s_124 hsh) (by omega) (by omega) (by decide) ?_
            refine k_eqst (st' := [.int (iI ((σ 124) (93 + p).toNat)), .int (iI ((σ 124) (105 + 4 * p + (i57 : Int)).toNat))]) rfl ?_
            have q33 := k_Mo_res (hMA).2.1 (x := 93 + p) (by omega) (by omega)
            refine k_icmp_ne (tgt := 123) dX8_writeTimetable_114 rfl ⟨by omega, by omega⟩ ⟨by omega, by omega⟩ (fun h34 => ?_) (fun h34 => ?_)
            · refine k_iff (F := (fun t => (k_pP sh R_writeTimetable) ((r_writeTimetable_57 σ p) (k_it (b_writeTimetable_57 σ p) n57 (i57 + 1) t)))) h34 ?_
              refine k_iinc (ls' := [(0, .ref 123), (1, .int (iI (p))), (2, .int (iI ((i57 : Int) + 1))), (3, .int (iI ((σ 124) (105 + 4 * p + (i57 : Int)).toNat)))]) dX8_writeTimetable_123 2 rfl (by decide) rfl rfl ?_
              refine k_goto (tgt := 57) dX8_writeTimetable_126 rfl ?_
              refine k_dropr (ls' := [(0, .ref 123), (1, .int (iI (p))), (2, .int (iI ((i57 : Int) + 1)))]) (ex := [(3, .int (iI ((σ 124) (105 + 4 * p + (i57 : Int)).toNat)))]) rfl ?_
              have y35 : (k_u1 (k_u1 (x57.1) 15 ((x57.1) 15 + 1)) 15 ((x57.1) 15 + 1 + 1)) 15 = (x57.1) 15 + 1 + 1 := rfl
              exact ih57 (((k_u1 (k_u1 (x57.1) 15 ((x57.1) 15 + 1)) 15 ((x57.1) 15 + 1 + 1)), (k_u1 (k_u1 (x57.2) (((x57.1) 15 : Int)).toNat (32)) (((x57.1) 15 + 1 : Int)).toNat (45)))) (show (0 ≤ ((k_u1 (k_u1 (x57.1) 15 ((x57.1) 15 + 1)) 15 ((x57.1) 15 + 1 + 1))) 15 ∧ ((k_u1 (k_u1 (x57.1) 15 ((x57.1) 15 + 1)) 15 ((x57.1) 15 + 1 + 1))) 15 ≤ 3 + 3 * ((i57 + 1 : Nat) : Int)) ∧ ((k_F0 (k_u1 (k_u1 (x57.1) 15 ((x57.1) 15 + 1)) 15 ((x57.1) 15 + 1 + 1)))) ∧ (k_rg 0 127 (k_u1 (k_u1 (x57.2) (((x57.1) 15 : Int)).toNat (32)) (((x57.1) 15 + 1 : Int)).toNat (45))) from ⟨(by omega), (show k_F0 (k_u1 (k_u1 (x57.1) 15 ((x57.1) 15 + 1)) 15 ((x57.1) 15 + 1 + 1)) from (k_F0_u (show k_F0 (k_u1 (x57.1) 15 ((x57.1) 15 + 1)) from (k_F0_u hW57_123 (by omega))) (by omega))), (show k_rg 0 127 (k_u1 (k_u1 (x57.2) (((x57.1) 15 : Int)).toNat (32)) (((x57.1) 15 + 1 : Int)).toNat (45)) from (k_rg_u (show k_rg 0 127 (k_u1 (x57.2) (((x57.1) 15 : Int)).toNat (32)) from (k_rg_u hW57_129 (by omega))) (by omega)))⟩)
            · refine k_ift (F := (fun t => (k_pP sh R_writeTimetable) ((r_writeTimetable_57 σ p) (k_it (b_writeTimetable_57 σ p) n57 (i57 + 1) t)))) h34 ?_
              refine k_aload_n dX8_writeTimetable_117 0 rfl rfl (by decide) ?_
              refine k_bipush (v := 33) dX8_writeTimetable_118 (by decide) ?_
              have q36 := k_nB (e := 33) (by omega)
              refine k_callVr (st := []) (as := [.int (iI (33))]) dX8_writeTimetable_120 oX8_writes w_2237 w_2239 w_79 rfl (by omega) rfl (Nat.le_of_ble_eq_true rfl) (by decide) (s_123 hsh) rfl (c8_writes (σ := (k_up (k_up σ 123 (k_u1 (k_u1 (x57.1) 15 ((x57.1) 15 + 1)) 15 ((x57.1) 15 + 1 + 1))) 129 (k_u1 (k_u1 (x57.2) (((x57.1) 15 : Int)).toNat (32)) (((x57.1) 15 + 1 : Int)).toNat (45)))) hsh (show 0 ≤ (x57.1) 15 + 1 + 1 ∧ (x57.1) 15 + 1 + 1 < 40 from by omega) (by omega)) ?_
              refine k_eqσ (σ' := (k_up (k_up σ 123 (k_u1 (k_u1 (k_u1 (x57.1) 15 ((x57.1) 15 + 1)) 15 ((x57.1) 15 + 1 + 1)) 15 ((x57.1) 15 + 1 + 1 + 1))) 129 (k_u1 (k_u1 (k_u1 (x57.2) (((x57.1) 15 : Int)).toNat (32)) (((x57.1) 15 + 1 : Int)).toNat (45)) (((x57.1) 15 + 1 + 1 : Int)).toNat (33)))) (((congrArg (fun s => k_up s 129 (k_u1 (k_u1 (k_u1 (x57.2) (((x57.1) 15 : Int)).toNat (32)) (((x57.1) 15 + 1 : Int)).toNat (45)) (((x57.1) 15 + 1 + 1 : Int)).toNat (33))) (show k_up (k_up (k_up σ 123 (k_u1 (k_u1 (x57.1) 15 ((x57.1) 15 + 1)) 15 ((x57.1) 15 + 1 + 1))) 129 (k_u1 (k_u1 (x57.2) (((x57.1) 15 : Int)).toNat (32)) (((x57.1) 15 + 1 : Int)).toNat (45))) 123 (k_u1 (k_u1 (k_u1 (x57.1) 15 ((x57.1) 15 + 1)) 15 ((x57.1) 15 + 1 + 1)) 15 ((x57.1) 15 + 1 + 1 + 1)) = (k_up (k_up σ 123 (k_u1 (k_u1 (k_u1 (x57.1) 15 ((x57.1) 15 + 1)) 15 ((x57.1) 15 + 1 + 1)) 15 ((x57.1) 15 + 1 + 1 + 1))) 129 (k_u1 (k_u1 (x57.2) (((x57.1) 15 : Int)).toNat (32)) (((x57.1) 15 + 1 : Int)).toNat (45))) from ((k_up_comm (by decide)).trans (congrArg (fun s => k_up s 129 _) k_up_up)))).trans (show k_up (k_up (k_up σ 123 (k_u1 (k_u1 (k_u1 (x57.1) 15 ((x57.1) 15 + 1)) 15 ((x57.1) 15 + 1 + 1)) 15 ((x57.1) 15 + 1 + 1 + 1))) 129 (k_u1 (k_u1 (x57.2) (((x57.1) 15 : Int)).toNat (32)) (((x57.1) 15 + 1 : Int)).toNat (45))) 129 (k_u1 (k_u1 (k_u1 (x57.2) (((x57.1) 15 : Int)).toNat (32)) (((x57.1) 15 + 1 : Int)).toNat (45)) (((x57.1) 15 + 1 + 1 : Int)).toNat (33)) = (k_up (k_up σ 123 (k_u1 (k_u1 (k_u1 (x57.1) 15 ((x57.1) 15 + 1)) 15 ((x57.1) 15 + 1 + 1)) 15 ((x57.1) 15 + 1 + 1 + 1))) 129 (k_u1 (k_u1 (k_u1 (x57.2) (((x57.1) 15 : Int)).toNat (32)) (((x57.1) 15 + 1 : Int)).toNat (45)) (((x57.1) 15 + 1 + 1 : Int)).toNat (33))) from k_up_up))).symm ?_
              refine k_iinc (ls' := [(0, .ref 123), (1, .int (iI (p))), (2, .int (iI ((i57 : Int) + 1))), (3, .int (iI ((σ 124) (105 + 4 * p + (i57 : Int)).toNat)))]) dX8_writeTimetable_123 2 rfl (by decide) rfl rfl ?_
              refine k_goto (tgt := 57) dX8_writeTimetable_126 rfl ?_
              refine k_dropr (ls' := [(0, .ref 123), (1, .int (iI (p))), (2, .int (iI ((i57 : Int) + 1)))]) (ex := [(3, .int (iI ((σ 124) (105 + 4 * p + (i57 : Int)).toNat)))]) rfl ?_
              have y38 : (k_u1 (k_u1 (k_u1 (x57.1) 15 ((x57.1) 15 + 1)) 15 ((x57.1) 15 + 1 + 1)) 15 ((x57.1) 15 + 1 + 1 + 1)) 15 = (x57.1) 15 + 1 + 1 + 1 := rfl
              exact ih57 (((k_u1 (k_u1 (k_u1 (x57.1) 15 ((x57.1) 15 + 1)) 15 ((x57.1) 15 + 1 + 1)) 15 ((x57.1) 15 + 1 + 1 + 1)), (k_u1 (k_u1 (k_u1 (x57.2) (((x57.1) 15 : Int)).toNat (32)) (((x57.1) 15 + 1 : Int)).toNat (45)) (((x57.1) 15 + 1 + 1 : Int)).toNat (33)))) (show (0 ≤ ((k_u1 (k_u1 (k_u1 (x57.1) 15 ((x57.1) 15 + 1)) 15 ((x57.1) 15 + 1 + 1)) 15 ((x57.1) 15 + 1 + 1 + 1))) 15 ∧ ((k_u1 (k_u1 (k_u1 (x57.1) 15 ((x57.1) 15 + 1)) 15 ((x57.1) 15 + 1 + 1)) 15 ((x57.1) 15 + 1 + 1 + 1))) 15 ≤ 3 + 3 * ((i57 + 1 : Nat) : Int)) ∧ ((k_F0 (k_u1 (k_u1 (k_u1 (x57.1) 15 ((x57.1) 15 + 1)) 15 ((x57.1) 15 + 1 + 1)) 15 ((x57.1) 15 + 1 + 1 + 1)))) ∧ (k_rg 0 127 (k_u1 (k_u1 (k_u1 (x57.2) (((x57.1) 15 : Int)).toNat (32)) (((x57.1) 15 + 1 : Int)).toNat (45)) (((x57.1) 15 + 1 + 1 : Int)).toNat (33))) from ⟨(by omega), (show k_F0 (k_u1 (k_u1 (k_u1 (x57.1) 15 ((x57.1) 15 + 1)) 15 ((x57.1) 15 + 1 + 1)) 15 ((x57.1) 15 + 1 + 1 + 1)) from (k_F0_u (show k_F0 (k_u1 (k_u1 (x57.1) 15 ((x57.1) 15 + 1)) 15 ((x57.1) 15 + 1 + 1)) from (k_F0_u (show k_F0 (k_u1 (x57.1) 15 ((x57.1) 15 + 1)) from (k_F0_u hW57_123 (by omega))) (by omega))) (by omega))), (show k_rg 0 127 (k_u1 (k_u1 (k_u1 (x57.2) (((x57.1) 15 : Int)).toNat (32)) (((x57.1) 15 + 1 : Int)).toNat (45)) (((x57.1) 15 + 1 + 1 : Int)).toNat (33)) from (k_rg_u (show k_rg 0 127 (k_u1 (k_u1 (x57.2) (((x57.1) 15 : Int)).toNat (32)) (((x57.1) 15 + 1 : Int)).toNat (45)) from (k_rg_u (show k_rg 0 127 (k_u1 (x57.2) (((x57.1) 15 : Int)).toNat (32)) from (k_rg_u hW57_129 (by omega))) (by omega))) (by omega)))⟩)
    · refine k_iff (F := (k_pP sh R_writeTimetable)) (Int.not_le.mpr h3) ?_
      refine k_aload_n dX8_writeTimetable_25 0 rfl rfl (by decide) ?_
      refine k_bipush (v := 48) dX8_writeTimetable_26 (by decide) ?_
      refine k_iload_n dX8_writeTimetable_28 1 rfl rfl ?_
      refine k_bipush (v := 10) dX8_writeTimetable_29 (by decide) ?_
      refine k_idiv (v := (iI ((p) / (10)))) dX8_writeTimetable_31 (by decide) (z_divI (by omega) (by omega) (by omega) (by omega)) ?_
      refine k_iadd dX8_writeTimetable_32 ?_
      refine k_i2c (v := (iI (48 + ((p) / (10))))) dX8_writeTimetable_33 (k_nB (by omega)).2.2.1 ?_
      have q39 := k_nB (e := 48 + ((p) / (10))) (by omega)
      refine k_callVr (st := []) (as := [.int (iI (48 + ((p) / (10))))]) dX8_writeTimetable_34 oX8_writes w_2237 w_2239 w_79 rfl (by omega) rfl (Nat.le_of_ble_eq_true rfl) (by decide) (s_123 hsh) rfl (c8_writes (σ := (k_up σ 123 (k_u1 (σ 123) 15 (0)))) hsh (show 0 ≤ 0 ∧ 0 < 40 from by omega) (by omega)) ?_
      refine k_eqσ (σ' := (k_up (k_up σ 123 (k_u1 (k_u1 (σ 123) 15 (0)) 15 (0 + 1))) 129 (k_u1 (σ 129) ((0 : Int)).toNat (48 + ((p) / (10)))))) (((congrArg (fun s => k_up s 129 (k_u1 (σ 129) ((0 : Int)).toNat (48 + ((p) / (10))))) (show k_up (k_up σ 123 (k_u1 (σ 123) 15 (0))) 123 (k_u1 (k_u1 (σ 123) 15 (0)) 15 (0 + 1)) = (k_up σ 123 (k_u1 (k_u1 (σ 123) 15 (0)) 15 (0 + 1))) from k_up_up)).trans (show k_up (k_up σ 123 (k_u1 (k_u1 (σ 123) 15 (0)) 15 (0 + 1))) 129 (k_u1 (σ 129) ((0 : Int)).toNat (48 + ((p) / (10)))) = (k_up (k_up σ 123 (k_u1 (k_u1 (σ 123) 15 (0)) 15 (0 + 1))) 129 (k_u1 (σ 129) ((0 : Int)).toNat (48 + ((p) / (10))))) from rfl))).symm ?_
      refine k_aload_n dX8_writeTimetable_37 0 rfl rfl (by decide) ?_
      refine k_bipush (v := 48) dX8_writeTimetable_38 (by decide) ?_
      refine k_iload_n dX8_writeTimetable_40 1 rfl rfl ?_
      refine k_bipush (v := 10) dX8_writeTimetable_41 (by decide) ?_
      refine k_irem (v := (iI ((p) % (10)))) dX8_writeTimetable_43 (z_ne0 (by omega) (by omega)) (z_remI (by omega) (by omega) (by omega) (by omega)) ?_
      refine k_iadd dX8_writeTimetable_44 ?_
      refine k_i2c (v := (iI (48 + ((p) % (10))))) dX8_writeTimetable_45 (k_nB (by omega)).2.2.1 ?_
      have q41 := k_nB (e := 48 + ((p) % (10))) (by omega)
      refine k_callVr (st := []) (as := [.int (iI (48 + ((p) % (10))))]) dX8_writeTimetable_46 oX8_writes w_2237 w_2239 w_79 rfl (by omega) rfl (Nat.le_of_ble_eq_true rfl) (by decide) (s_123 hsh) rfl (c8_writes (σ := (k_up (k_up σ 123 (k_u1 (k_u1 (σ 123) 15 (0)) 15 (0 + 1))) 129 (k_u1 (σ 129) ((0 : Int)).toNat (48 + ((p) / (10)))))) hsh (show 0 ≤ 0 + 1 ∧ 0 + 1 < 40 from by omega) (by omega)) ?_
      refine k_eqσ (σ' := (k_up (k_up σ 123 (k_u1 (k_u1 (k_u1 (σ 123) 15 (0)) 15 (0 + 1)) 15 (0 + 1 + 1))) 129 (k_u1 (k_u1 (σ 129) ((0 : Int)).toNat (48 + ((p) / (10)))) ((0 + 1 : Int)).toNat (48 + ((p) % (10)))))) (((congrArg (fun s => k_up s 129 (k_u1 (k_u1 (σ 129) ((0 : Int)).toNat (48 + ((p) / (10)))) ((0 + 1 : Int)).toNat (48 + ((p) % (10))))) (show k_up (k_up (k_up σ 123 (k_u1 (k_u1 (σ 123) 15 (0)) 15 (0 + 1))) 129 (k_u1 (σ 129) ((0 : Int)).toNat (48 + ((p) / (10))))) 123 (k_u1 (k_u1 (k_u1 (σ 123) 15 (0)) 15 (0 + 1)) 15 (0 + 1 + 1)) = (k_up (k_up σ 123 (k_u1 (k_u1 (k_u1 (σ 123) 15 (0)) 15 (0 + 1)) 15 (0 + 1 + 1))) 129 (k_u1 (σ 129) ((0 : Int)).toNat (48 + ((p) / (10))))) from ((k_up_comm (by decide)).trans (congrArg (fun s => k_up s 129 _) k_up_up)))).trans (show k_up (k_up (k_up σ 123 (k_u1 (k_u1 (k_u1 (σ 123) 15 (0)) 15 (0 + 1)) 15 (0 + 1 + 1))) 129 (k_u1 (σ 129) ((0 : Int)).toNat (48 + ((p) / (10))))) 129 (k_u1 (k_u1 (σ 129) ((0 : Int)).toNat (48 + ((p) / (10)))) ((0 + 1 : Int)).toNat (48 + ((p) % (10)))) = (k_up (k_up σ 123 (k_u1 (k_u1 (k_u1 (σ 123) 15 (0)) 15 (0 + 1)) 15 (0 + 1 + 1))) 129 (k_u1 (k_u1 (σ 129) ((0 : Int)).toNat (48 + ((p) / (10)))) ((0 + 1 : Int)).toNat (48 + ((p) % (10))))) from k_up_up))).symm ?_
      refine k_aload_n dX8_writeTimetable_49 0 rfl rfl (by decide) ?_
      refine k_bipush (v := 58) dX8_writeTimetable_50 (by decide) ?_
      have q43 := k_nB (e := 58) (by omega)
      refine k_callVr (st := []) (as := [.int (iI (58))]) dX8_writeTimetable_52 oX8_writes w_2237 w_2239 w_79 rfl (by omega) rfl (Nat.le_of_ble_eq_true rfl) (by decide) (s_123 hsh) rfl (c8_writes (σ := (k_up (k_up σ 123 (k_u1 (k_u1 (k_u1 (σ 123) 15 (0)) 15 (0 + 1)) 15 (0 + 1 + 1))) 129 (k_u1 (k_u1 (σ 129) ((0 : Int)).toNat (48 + ((p) / (10)))) ((0 + 1 : Int)).toNat (48 + ((p) % (10)))))) hsh (show 0 ≤ 0 + 1 + 1 ∧ 0 + 1 + 1 < 40 from by omega) (by omega)) ?_
      refine k_eqσ (σ' := (k_up (k_up σ 123 (k_u1 (k_u1 (k_u1 (k_u1 (σ 123) 15 (0)) 15 (0 + 1)) 15 (0 + 1 + 1)) 15 (0 + 1 + 1 + 1))) 129 (k_u1 (k_u1 (k_u1 (σ 129) ((0 : Int)).toNat (48 + ((p) / (10)))) ((0 + 1 : Int)).toNat (48 + ((p) % (10)))) ((0 + 1 + 1 : Int)).toNat (58)))) (((congrArg (fun s => k_up s 129 (k_u1 (k_u1 (k_u1 (σ 129) ((0 : Int)).toNat (48 + ((p) / (10)))) ((0 + 1 : Int)).toNat (48 + ((p) % (10)))) ((0 + 1 + 1 : Int)).toNat (58))) (show k_up (k_up (k_up σ 123 (k_u1 (k_u1 (k_u1 (σ 123) 15 (0)) 15 (0 + 1)) 15 (0 + 1 + 1))) 129 (k_u1 (k_u1 (σ 129) ((0 : Int)).toNat (48 + ((p) / (10)))) ((0 + 1 : Int)).toNat (48 + ((p) % (10))))) 123 (k_u1 (k_u1 (k_u1 (k_u1 (σ 123) 15 (0)) 15 (0 + 1)) 15 (0 + 1 + 1)) 15 (0 + 1 + 1 + 1)) = (k_up (k_up σ 123 (k_u1 (k_u1 (k_u1 (k_u1 (σ 123) 15 (0)) 15 (0 + 1)) 15 (0 + 1 + 1)) 15 (0 + 1 + 1 + 1))) 129 (k_u1 (k_u1 (σ 129) ((0 : Int)).toNat (48 + ((p) / (10)))) ((0 + 1 : Int)).toNat (48 + ((p) % (10))))) from ((k_up_comm (by decide)).trans (congrArg (fun s => k_up s 129 _) k_up_up)))).trans (show k_up (k_up (k_up σ 123 (k_u1 (k_u1 (k_u1 (k_u1 (σ 123) 15 (0)) 15 (0 + 1)) 15 (0 + 1 + 1)) 15 (0 + 1 + 1 + 1))) 129 (k_u1 (k_u1 (σ 129) ((0 : Int)).toNat (48 + ((p) / (10)))) ((0 + 1 : Int)).toNat (48 + ((p) % (10))))) 129 (k_u1 (k_u1 (k_u1 (σ 129) ((0 : Int)).toNat (48 + ((p) / (10)))) ((0 + 1 : Int)).toNat (48 + ((p) % (10)))) ((0 + 1 + 1 : Int)).toNat (58)) = (k_up (k_up σ 123 (k_u1 (k_u1 (k_u1 (k_u1 (σ 123) 15 (0)) 15 (0 + 1)) 15 (0 + 1 + 1)) 15 (0 + 1 + 1 + 1))) 129 (k_u1 (k_u1 (k_u1 (σ 129) ((0 : Int)).toNat (48 + ((p) / (10)))) ((0 + 1 : Int)).toNat (48 + ((p) % (10)))) ((0 + 1 + 1 : Int)).toNat (58))) from k_up_up))).symm ?_
      refine k_iconst (v := 0) dX8_writeTimetable_55 rfl ?_
      refine k_istore_n (ls' := [(0, .ref 123), (1, .int (iI (p))), (2, .int (iI (0)))]) dX8_writeTimetable_56 rfl (by decide) rfl rfl ?_
      refine k_loop (α := (Nat → Int) × (Nat → Int)) (P := fun (i57 : Nat) (x57 : (Nat → Int) × (Nat → Int)) Q => k_V E mX8_writeTimetable _ 57 [(0, .ref 123), (1, .int (iI (p))), (2, .int (iI ((i57 : Int))))] [] sh (k_up (k_up σ 123 (x57.1)) 129 (x57.2)) _ _ Q) (J := fun (i57 : Nat) (x57 : (Nat → Int) × (Nat → Int)) => (0 ≤ (x57.1) 15 ∧ (x57.1) 15 ≤ 3 + 3 * (i57 : Int)) ∧ ((k_F0 x57.1)) ∧ (k_rg 0 127 x57.2)) (((σ 124) 1).toNat) (b_writeTimetable_57_2 σ p) (((k_u1 (k_u1 (k_u1 (k_u1 (σ 123) 15 (0)) 15 (0 + 1)) 15 (0 + 1 + 1)) 15 (0 + 1 + 1 + 1)), (k_u1 (k_u1 (k_u1 (σ 129) ((0 : Int)).toNat (48 + ((p) / (10)))) ((0 + 1 : Int)).toNat (48 + ((p) % (10)))) ((0 + 1 + 1 : Int)).toNat (58)))) (F := fun t => (k_pP sh R_writeTimetable) ((r_writeTimetable_57_2 σ p) t)) (show (0 ≤ ((k_u1 (k_u1 (k_u1 (k_u1 (σ 123) 15 (0)) 15 (0 + 1)) 15 (0 + 1 + 1)) 15 (0 + 1 + 1 + 1))) 15 ∧ ((k_u1 (k_u1 (k_u1 (k_u1 (σ 123) 15 (0)) 15 (0 + 1)) 15 (0 + 1 + 1)) 15 (0 + 1 + 1 + 1))) 15 ≤ 3 + 3 * ((0 : Nat) : Int)) ∧ ((k_F0 (k_u1 (k_u1 (k_u1 (k_u1 (σ 123) 15 (0)) 15 (0 + 1)) 15 (0 + 1 + 1)) 15 (0 + 1 + 1 + 1)))) ∧ (k_rg 0 127 (k_u1 (k_u1 (k_u1 (σ 129) ((0 : Int)).toNat (48 + ((p) / (10)))) ((0 + 1 : Int)).toNat (48 + ((p) % (10)))) ((0 + 1 + 1 : Int)).toNat (58))) from ⟨(show 0 ≤ 0 + 1 + 1 + 1 ∧ 0 + 1 + 1 + 1 ≤ 3 + 3 * ((0 : Nat) : Int) from by omega), (show k_F0 (k_u1 (k_u1 (k_u1 (k_u1 (σ 123) 15 (0)) 15 (0 + 1)) 15 (0 + 1 + 1)) 15 (0 + 1 + 1 + 1)) from (k_F0_u (show k_F0 (k_u1 (k_u1 (k_u1 (σ 123) 15 (0)) 15 (0 + 1)) 15 (0 + 1 + 1)) from (k_F0_u (show k_F0 (k_u1 (k_u1 (σ 123) 15 (0)) 15 (0 + 1)) from (k_F0_u (show k_F0 (k_u1 (σ 123) 15 (0)) from (k_F0_u (hMA).1 (by omega))) (by omega))) (by omega))) (by omega))), (show k_rg 0 127 (k_u1 (k_u1 (k_u1 (σ 129) ((0 : Int)).toNat (48 + ((p) / (10)))) ((0 + 1 : Int)).toNat (48 + ((p) % (10)))) ((0 + 1 + 1 : Int)).toNat (58)) from (k_rg_u (show k_rg 0 127 (k_u1 (k_u1 (σ 129) ((0 : Int)).toNat (48 + ((p) / (10)))) ((0 + 1 : Int)).toNat (48 + ((p) % (10)))) from (k_rg_u (show k_rg 0 127 (k_u1 (σ 129) ((0 : Int)).toNat (48 + ((p) / (10)))) from (k_rg_u (hMA).2.2.1 (by omega))) (by omega))) (by omega)))⟩) ?_ ?_
      · intro x57 hJ57
        have hJ57 : (0 ≤ (x57.1) 15 ∧ (x57.1) 15 ≤ 3 + 3 * ((((σ 124) 1).toNat : Nat) : Int)) ∧ ((k_F0 x57.1)) ∧ (k_rg 0 127 x57.2) := hJ57
        obtain ⟨hU57, hW57_123, hW57_129⟩ := id hJ57
        obtain ⟨⟨f46_0, g46_0⟩, ⟨f46_1, g46_1⟩, ⟨f46_2, g46_2⟩, ⟨f46_3, g46_3⟩, ⟨f46_4, g46_4⟩, ⟨f46_5, g46_5⟩, ⟨f46_6, g46_6⟩, ⟨f46_7, g46_7⟩, ⟨f46_8, g46_8⟩, ⟨f46_9, g46_9⟩, ⟨f46_10, g46_10⟩, ⟨f46_11, g46_11⟩, ⟨f46_12, g46_12⟩, ⟨f46_13, g46_13⟩⟩ := id hW57_123
        show k_V E mX8_writeTimetable _ 57 [(0, .ref 123), (1, .int (iI (p))), (2, .int (iI (((((σ 124) 1).toNat : Nat) : Int))))] [] sh (k_up (k_up σ 123 (x57.1)) 129 (x57.2)) _ _ ((k_pP sh R_writeTimetable) ((r_writeTimetable_57_2 σ p) x57))
        unfold r_writeTimetable_57_2
        refine k_iload_n dX8_writeTimetable_57 2 rfl rfl ?_
        refine k_aload_n dX8_writeTimetable_58 0 rfl rfl (by decide) ?_
        refine k_get (kf := 0) (v := .ref 124) dX8_writeTimetable_59 kcX8 w_1748 (by decide) (by decide) (s_123 hsh) rfl rfl ?_
        refine k_iconst (v := 1) dX8_writeTimetable_62 rfl ?_
        refine k_iald dX8_writeTimetable_63 (by decide) (s_124 hsh) (by omega) (by omega) (by decide) ?_
        refine k_eqst (st' := [.int (iI ((σ 124) 1)), .int (iI (((((σ 124) 1).toNat : Nat) : Int)))]) rfl ?_
        refine k_icmp_ge (tgt := 129) dX8_writeTimetable_64 rfl ⟨by omega, by omega⟩ ⟨by omega, by omega⟩ (fun h47 => ?_) (fun h47 => absurd h47 (by omega))
        refine k_aload_n dX8_writeTimetable_129 0 rfl rfl (by decide) ?_
        refine k_aload_n dX8_writeTimetable_130 0 rfl rfl (by decide) ?_
        refine k_get (kf := 15) (v := .int (iI ((x57.1) 15))) dX8_writeTimetable_131 kcX8 w_1763 (by decide) (by decide) (s_123 hsh) rfl rfl ?_
        refine k_callVr (st := []) (as := [.int (iI ((x57.1) 15))]) dX8_writeTimetable_134 oX8_tells w_1855 w_1857 w_32 rfl (by omega) rfl (Nat.le_of_ble_eq_true rfl) (by decide) (s_123 hsh) rfl (c8_tells hsh) ?_
        refine k_eqσ (σ' := (k_up (k_up σ 123 (k_u1 (x57.1) 7 (0))) 129 (x57.2))) ((show k_up (k_up (k_up σ 123 (x57.1)) 129 (x57.2)) 123 (k_u1 (x57.1) 7 (0)) = (k_up (k_up σ 123 (k_u1 (x57.1) 7 (0))) 129 (x57.2)) from ((k_up_comm (by decide)).trans (congrArg (fun s => k_up s 129 _) k_up_up)))).symm ?_
        exact k_retiP dX8_writeTimetable_137 rfl rfl rfl (show (-1 ≤ (x57.1) 15 ∧ (x57.1) 15 ≤ 1000) ∧ k_MA (k_up (k_up σ 123 (k_u1 (x57.1) 7 (0))) 129 (x57.2)) from ⟨by omega, ⟨(show k_F0 (k_u1 (x57.1) 7 (0)) from (k_F0_u hW57_123 (by omega))), (hMA).2.1, hW57_129, (hMA).2.2.2.1, (hMA).2.2.2.2.1, (hMA).2.2.2.2.2.1, (hMA).2.2.2.2.2.2.1, (hMA).2.2.2.2.2.2.2.1, (hMA).2.2.2.2.2.2.2.2.1, (hMA).2.2.2.2.2.2.2.2.2.1, (hMA).2.2.2.2.2.2.2.2.2.2.1, (hMA).2.2.2.2.2.2.2.2.2.2.2.1, (hMA).2.2.2.2.2.2.2.2.2.2.2.2⟩⟩)
      · intro n57 i57 x57 hi57 hJ57 ih57
        have hJ57 : (0 ≤ (x57.1) 15 ∧ (x57.1) 15 ≤ 3 + 3 * (i57 : Int)) ∧ ((k_F0 x57.1)) ∧ (k_rg 0 127 x57.2) := hJ57
        obtain ⟨hU57, hW57_123, hW57_129⟩ := id hJ57
        obtain ⟨⟨f49_0, g49_0⟩, ⟨f49_1, g49_1⟩, ⟨f49_2, g49_2⟩, ⟨f49_3, g49_3⟩, ⟨f49_4, g49_4⟩, ⟨f49_5, g49_5⟩, ⟨f49_6, g49_6⟩, ⟨f49_7, g49_7⟩, ⟨f49_8, g49_8⟩, ⟨f49_9, g49_9⟩, ⟨f49_10, g49_10⟩, ⟨f49_11, g49_11⟩, ⟨f49_12, g49_12⟩, ⟨f49_13, g49_13⟩⟩ := id hW57_123
        show k_V E mX8_writeTimetable _ 57 [(0, .ref 123), (1, .int (iI (p))), (2, .int (iI ((i57 : Int))))] [] sh (k_up (k_up σ 123 (x57.1)) 129 (x57.2)) _ _ ((fun t => (k_pP sh R_writeTimetable) ((r_writeTimetable_57_2 σ p) (k_it (b_writeTimetable_57_2 σ p) n57 (i57 + 1) t))) ((b_writeTimetable_57_2 σ p) i57 x57))
        unfold b_writeTimetable_57_2
        refine k_iload_n dX8_writeTimetable_57 2 rfl rfl ?_
        refine k_aload_n dX8_writeTimetable_58 0 rfl rfl (by decide) ?_
        refine k_get (kf := 0) (v := .ref 124) dX8_writeTimetable_59 kcX8 w_1748 (by decide) (by decide) (s_123 hsh) rfl rfl ?_
        refine k_iconst (v := 1) dX8_writeTimetable_62 rfl ?_
        refine k_iald dX8_writeTimetable_63 (by decide) (s_124 hsh) (by omega) (by omega) (by decide) ?_
        refine k_eqst (st' := [.int (iI ((σ 124) 1)), .int (iI ((i57 : Int)))]) rfl ?_
        refine k_icmp_ge (tgt := 129) dX8_writeTimetable_64 rfl ⟨by omega, by omega⟩ ⟨by omega, by omega⟩ (fun h50 => absurd h50 (by omega)) (fun h50 => ?_)
        refine k_aload_n dX8_writeTimetable_67 0 rfl rfl (by decide) ?_
        refine k_iload_n dX8_writeTimetable_68 1 rfl rfl ?_
        refine k_iload_n dX8_writeTimetable_69 2 rfl rfl ?_
        refine k_callVr (st := []) (as := [.int (iI (p)), .int (iI ((i57 : Int)))]) dX8_writeTimetable_70 oX8_subjectOf w_1909 w_1911 w_40 rfl (by omega) rfl (Nat.le_of_ble_eq_true rfl) (by decide) (s_123 hsh) rfl (c8_subjectOf (σ := (k_up (k_up σ 123 (x57.1)) 129 (x57.2))) hsh (hMA).2.1 (by omega) (by omega)) ?_
        refine k_eqst (st' := [.int (iI ((σ 124) (105 + 4 * p + (i57 : Int)).toNat))]) rfl ?_
        have q51 := k_Mo_tab (hMA).2.1 (x := 105 + 4 * p + (i57 : Int)) (by omega) (by omega)
        refine k_istore_n (ls' := [(0, .ref 123), (1, .int (iI (p))), (2, .int (iI ((i57 : Int)))), (3, .int (iI ((σ 124) (105 + 4 * p + (i57 : Int)).toNat)))]) dX8_writeTimetable_73 rfl (by decide) rfl rfl ?_
        refine k_aload_n dX8_writeTimetable_74 0 rfl rfl (by decide) ?_
        refine k_bipush (v := 32) dX8_writeTimetable_75 (by decide) ?_
        have q53 := k_nB (e := 32) (by omega)
        refine k_callVr (st := []) (as := [.int (iI (32))]) dX8_writeTimetable_77 oX8_writes w_2237 w_2239 w_79 rfl (by omega) rfl (Nat.le_of_ble_eq_true rfl) (by decide) (s_123 hsh) rfl (c8_writes (σ := (k_up (k_up σ 123 (x57.1)) 129 (x57.2))) hsh (show 0 ≤ (x57.1) 15 ∧ (x57.1) 15 < 40 from by omega) (by omega)) ?_
        refine k_eqσ (σ' := (k_up (k_up σ 123 (k_u1 (x57.1) 15 ((x57.1) 15 + 1))) 129 (k_u1 (x57.2) (((x57.1) 15 : Int)).toNat (32)))) (((congrArg (fun s => k_up s 129 (k_u1 (x57.2) (((x57.1) 15 : Int)).toNat (32))) (show k_up (k_up (k_up σ 123 (x57.1)) 129 (x57.2)) 123 (k_u1 (x57.1) 15 ((x57.1) 15 + 1)) = (k_up (k_up σ 123 (k_u1 (x57.1) 15 ((x57.1) 15 + 1))) 129 (x57.2)) from ((k_up_comm (by decide)).trans (congrArg (fun s => k_up s 129 _) k_up_up)))).trans (show k_up (k_up (k_up σ 123 (k_u1 (x57.1) 15 ((x57.1) 15 + 1))) 129 (x57.2)) 129 (k_u1 (x57.2) (((x57.1) 15 : Int)).toNat (32)) = (k_up (k_up σ 123 (k_u1 (x57.1) 15 ((x57.1) 15 + 1))) 129 (k_u1 (x57.2) (((x57.1) 15 : Int)).toNat (32))) from k_up_up))).symm ?_
        refine k_aload_n dX8_writeTimetable_80 0 rfl rfl (by decide) ?_
        refine k_iload_n dX8_writeTimetable_81 3 rfl rfl ?_
        refine k_iconst (v := (-1)) dX8_writeTimetable_82 rfl ?_
        refine k_icmp_ne (tgt := 91) dX8_writeTimetable_83 rfl ⟨by omega, by omega⟩ ⟨by decide, by decide⟩ (fun h55 => ?_) (fun h55 => ?_)
        · refine k_iff (F := (fun t => (k_pP sh R_writeTimetable) ((r_writeTimetable_57_2 σ p) (k_it (b_writeTimetable_57_2 σ p) n57 (i57 + 1) t)))) h55 ?_
          refine k_bipush (v := 48) dX8_writeTimetable_91 (by decide) ?_
          refine k_iload_n dX8_writeTimetable_93 3 rfl rfl ?_
          refine k_iadd dX8_writeTimetable_94 ?_
          refine k_i2c (v := (iI (48 + ((σ 124) (105 + 4 * p + (i57 : Int)).toNat)))) dX8_writeTimetable_95 (k_nB (by omega)).2.2.1 ?_
          have q56 := k_nB (e := 48 + ((σ 124) (105 + 4 * p + (i57 : Int)).toNat)) (by omega)
          refine k_callVr (st := []) (as := [.int (iI (48 + ((σ 124) (105 + 4 * p + (i57 : Int)).toNat)))]) dX8_writeTimetable_96 oX8_writes w_2237 w_2239 w_79 rfl (by omega) rfl (Nat.le_of_ble_eq_true rfl) (by decide) (s_123 hsh) rfl (c8_writes (σ := (k_up (k_up σ 123 (k_u1 (x57.1) 15 ((x57.1) 15 + 1))) 129 (k_u1 (x57.2) (((x57.1) 15 : Int)).toNat (32)))) hsh (show 0 ≤ (x57.1) 15 + 1 ∧ (x57.1) 15 + 1 < 40 from by omega) (by omega)) ?_
          refine k_eqσ (σ' := (k_up (k_up σ 123 (k_u1 (k_u1 (x57.1) 15 ((x57.1) 15 + 1)) 15 ((x57.1) 15 + 1 + 1))) 129 (k_u1 (k_u1 (x57.2) (((x57.1) 15 : Int)).toNat (32)) (((x57.1) 15 + 1 : Int)).toNat (48 + ((σ 124) (105 + 4 * p + (i57 : Int)).toNat))))) (((congrArg (fun s => k_up s 129 (k_u1 (k_u1 (x57.2) (((x57.1) 15 : Int)).toNat (32)) (((x57.1) 15 + 1 : Int)).toNat (48 + ((σ 124) (105 + 4 * p + (i57 : Int)).toNat)))) (show k_up (k_up (k_up σ 123 (k_u1 (x57.1) 15 ((x57.1) 15 + 1))) 129 (k_u1 (x57.2) (((x57.1) 15 : Int)).toNat (32))) 123 (k_u1 (k_u1 (x57.1) 15 ((x57.1) 15 + 1)) 15 ((x57.1) 15 + 1 + 1)) = (k_up (k_up σ 123 (k_u1 (k_u1 (x57.1) 15 ((x57.1) 15 + 1)) 15 ((x57.1) 15 + 1 + 1))) 129 (k_u1 (x57.2) (((x57.1) 15 : Int)).toNat (32))) from ((k_up_comm (by decide)).trans (congrArg (fun s => k_up s 129 _) k_up_up)))).trans (show k_up (k_up (k_up σ 123 (k_u1 (k_u1 (x57.1) 15 ((x57.1) 15 + 1)) 15 ((x57.1) 15 + 1 + 1))) 129 (k_u1 (x57.2) (((x57.1) 15 : Int)).toNat (32))) 129 (k_u1 (k_u1 (x57.2) (((x57.1) 15 : Int)).toNat (32)) (((x57.1) 15 + 1 : Int)).toNat (48 + ((σ 124) (105 + 4 * p + (i57 : Int)).toNat))) = (k_up (k_up σ 123 (k_u1 (k_u1 (x57.1) 15 ((x57.1) 15 + 1)) 15 ((x57.1) 15 + 1 + 1))) 129 (k_u1 (k_u1 (x57.2) (((x57.1) 15 : Int)).toNat (32)) (((x57.1) 15 + 1 : Int)).toNat (48 + ((σ 124) (105 + 4 * p + (i57 : Int)).toNat)))) from k_up_up))).symm ?_
          refine k_iload_n dX8_writeTimetable_99 3 rfl rfl ?_
          refine k_iconst (v := (-1)) dX8_writeTimetable_100 rfl ?_
          refine k_icmp_eq (tgt := 123) dX8_writeTimetable_101 rfl ⟨by omega, by omega⟩ ⟨by decide, by decide⟩ (fun h58 => ?_) (fun h58 => ?_)
          · refine k_ift (F := (fun t => (k_pP sh R_writeTimetable) ((r_writeTimetable_57_2 σ p) (k_it (b_writeTimetable_57_2 σ p) n57 (i57 + 1) t)))) h58 ?_
            refine k_iinc (ls' := [(0, .ref 123), (1, .int (iI (p))), (2, .int (iI ((i57 : Int) + 1))), (3, .int (iI ((σ 124) (105 + 4 * p + (i57 : Int)).toNat)))]) dX8_writeTimetable_123 2 rfl (by decide) rfl rfl ?_
            refine k_goto (tgt := 57) dX8_writeTimetable_126 rfl ?_
            refine k_dropr (ls' := [(0, .ref 123), (1, .int (iI (p))), (2, .int (iI ((i57 : Int) + 1)))]) (ex := [(3, .int (iI ((σ 124) (105 + 4 * p + (i57 : Int)).toNat)))]) rfl ?_
            have y59 : (k_u1 (k_u1 (x57.1) 15 ((x57.1) 15 + 1)) 15 ((x57.1) 15 + 1 + 1)) 15 = (x57.1) 15 + 1 + 1 := rfl
            exact ih57 (((k_u1 (k_u1 (x57.1) 15 ((x57.1) 15 + 1)) 15 ((x57.1) 15 + 1 + 1)), (k_u1 (k_u1 (x57.2) (((x57.1) 15 : Int)).toNat (32)) (((x57.1) 15 + 1 : Int)).toNat (48 + ((σ 124) (105 + 4 * p + (i57 : Int)).toNat))))) (show (0 ≤ ((k_u1 (k_u1 (x57.1) 15 ((x57.1) 15 + 1)) 15 ((x57.1) 15 + 1 + 1))) 15 ∧ ((k_u1 (k_u1 (x57.1) 15 ((x57.1) 15 + 1)) 15 ((x57.1) 15 + 1 + 1))) 15 ≤ 3 + 3 * ((i57 + 1 : Nat) : Int)) ∧ ((k_F0 (k_u1 (k_u1 (x57.1) 15 ((x57.1) 15 + 1)) 15 ((x57.1) 15 + 1 + 1)))) ∧ (k_rg 0 127 (k_u1 (k_u1 (x57.2) (((x57.1) 15 : Int)).toNat (32)) (((x57.1) 15 + 1 : Int)).toNat (48 + ((σ 124) (105 + 4 * p + (i57 : Int)).toNat)))) from ⟨(by omega), (show k_F0 (k_u1 (k_u1 (x57.1) 15 ((x57.1) 15 + 1)) 15 ((x57.1) 15 + 1 + 1)) from (k_F0_u (show k_F0 (k_u1 (x57.1) 15 ((x57.1) 15 + 1)) from (k_F0_u hW57_123 (by omega))) (by omega))), (show k_rg 0 127 (k_u1 (k_u1 (x57.2) (((x57.1) 15 : Int)).toNat (32)) (((x57.1) 15 + 1 : Int)).toNat (48 + ((σ 124) (105 + 4 * p + (i57 : Int)).toNat))) from (k_rg_u (show k_rg 0 127 (k_u1 (x57.2) (((x57.1) 15 : Int)).toNat (32)) from (k_rg_u hW57_129 (by omega))) (by omega)))⟩)
          · refine k_iff (F := (fun t => (k_pP sh R_writeTimetable) ((r_writeTimetable_57_2 σ p) (k_it (b_writeTimetable_57_2 σ p) n57 (i57 + 1) t)))) h58 ?_
            refine k_iload_n dX8_writeTimetable_104 3 rfl rfl ?_
            refine k_aload_n dX8_writeTimetable_105 0 rfl rfl (by decide) ?_
            refine k_get (kf := 0) (v := .ref 124) dX8_writeTimetable_106 kcX8 w_1748 (by decide) (by decide) (s_123 hsh) rfl rfl ?_
            refine k_bipush (v := 93) dX8_writeTimetable_109 (by decide) ?_
            refine k_iload_n dX8_writeTimetable_111 1 rfl rfl ?_
            refine k_iadd dX8_writeTimetable_112 ?_
            refine k_iald dX8_writeTimetable_113 (by decide) (s_124 hsh) (by omega) (by omega) (by decide) ?_
            refine k_eqst (st' := [.int (iI ((σ 124) (93 + p).toNat)), .int (iI ((σ 124) (105 + 4 * p + (i57 : Int)).toNat))]) rfl ?_
            have q60 := k_Mo_res (hMA).2.1 (x := 93 + p) (by omega) (by omega)
            refine k_icmp_ne (tgt := 123) dX8_writeTimetable_114 rfl ⟨by omega, by omega⟩ ⟨by omega, by omega⟩ (fun h61 => ?_) (fun h61 => ?_)
            · refine k_iff (F := (fun t => (k_pP sh R_writeTimetable) ((r_writeTimetable_57_2 σ p) (k_it (b_writeTimetable_57_2 σ p) n57 (i57 + 1) t)))) h61 ?_
              refine k_iinc (ls' := [(0, .ref 123), (1, .int (iI (p))), (2, .int (iI ((i57 : Int) + 1))), (3, .int (iI ((σ 124) (105 + 4 * p + (i57 : Int)).toNat)))]) dX8_writeTimetable_123 2 rfl (by decide) rfl rfl ?_
              refine k_goto (tgt := 57) dX8_writeTimetable_126 rfl ?_
              refine k_dropr (ls' := [(0, .ref 123), (1, .int (iI (p))), (2, .int (iI ((i57 : Int) + 1)))]) (ex := [(3, .int (iI ((σ 124) (105 + 4 * p + (i57 : Int)).toNat)))]) rfl ?_
              have y62 : (k_u1 (k_u1 (x57.1) 15 ((x57.1) 15 + 1)) 15 ((x57.1) 15 + 1 + 1)) 15 = (x57.1) 15 + 1 + 1 := rfl
              exact ih57 (((k_u1 (k_u1 (x57.1) 15 ((x57.1) 15 + 1)) 15 ((x57.1) 15 + 1 + 1)), (k_u1 (k_u1 (x57.2) (((x57.1) 15 : Int)).toNat (32)) (((x57.1) 15 + 1 : Int)).toNat (48 + ((σ 124) (105 + 4 * p + (i57 : Int)).toNat))))) (show (0 ≤ ((k_u1 (k_u1 (x57.1) 15 ((x57.1) 15 + 1)) 15 ((x57.1) 15 + 1 + 1))) 15 ∧ ((k_u1 (k_u1 (x57.1) 15 ((x57.1) 15 + 1)) 15 ((x57.1) 15 + 1 + 1))) 15 ≤ 3 + 3 * ((i57 + 1 : Nat) : Int)) ∧ ((k_F0 (k_u1 (k_u1 (x57.1) 15 ((x57.1) 15 + 1)) 15 ((x57.1) 15 + 1 + 1)))) ∧ (k_rg 0 127 (k_u1 (k_u1 (x57.2) (((x57.1) 15 : Int)).toNat (32)) (((x57.1) 15 + 1 : Int)).toNat (48 + ((σ 124) (105 + 4 * p + (i57 : Int)).toNat)))) from ⟨(by omega), (show k_F0 (k_u1 (k_u1 (x57.1) 15 ((x57.1) 15 + 1)) 15 ((x57.1) 15 + 1 + 1)) from (k_F0_u (show k_F0 (k_u1 (x57.1) 15 ((x57.1) 15 + 1)) from (k_F0_u hW57_123 (by omega))) (by omega))), (show k_rg 0 127 (k_u1 (k_u1 (x57.2) (((x57.1) 15 : Int)).toNat (32)) (((x57.1) 15 + 1 : Int)).toNat (48 + ((σ 124) (105 + 4 * p + (i57 : Int)).toNat))) from (k_rg_u (show k_rg 0 127 (k_u1 (x57.2) (((x57.1) 15 : Int)).toNat (32)) from (k_rg_u hW57_129 (by omega))) (by omega)))⟩)
            · refine k_ift (F := (fun t => (k_pP sh R_writeTimetable) ((r_writeTimetable_57_2 σ p) (k_it (b_writeTimetable_57_2 σ p) n57 (i57 + 1) t)))) h61 ?_
              refine k_aload_n dX8_writeTimetable_117 0 rfl rfl (by decide) ?_
              refine k_bipush (v := 33) dX8_writeTimetable_118 (by decide) ?_
              have q63 := k_nB (e := 33) (by omega)
              refine k_callVr (st := []) (as := [.int (iI (33))]) dX8_writeTimetable_120 oX8_writes w_2237 w_2239 w_79 rfl (by omega) rfl (Nat.le_of_ble_eq_true rfl) (by decide) (s_123 hsh) rfl (c8_writes (σ := (k_up (k_up σ 123 (k_u1 (k_u1 (x57.1) 15 ((x57.1) 15 + 1)) 15 ((x57.1) 15 + 1 + 1))) 129 (k_u1 (k_u1 (x57.2) (((x57.1) 15 : Int)).toNat (32)) (((x57.1) 15 + 1 : Int)).toNat (48 + ((σ 124) (105 + 4 * p + (i57 : Int)).toNat))))) hsh (show 0 ≤ (x57.1) 15 + 1 + 1 ∧ (x57.1) 15 + 1 + 1 < 40 from by omega) (by omega)) ?_
              refine k_eqσ (σ' := (k_up (k_up σ 123 (k_u1 (k_u1 (k_u1 (x57.1) 15 ((x57.1) 15 + 1)) 15 ((x57.1) 15 + 1 + 1)) 15 ((x57.1) 15 + 1 + 1 + 1))) 129 (k_u1 (k_u1 (k_u1 (x57.2) (((x57.1) 15 : Int)).toNat (32)) (((x57.1) 15 + 1 : Int)).toNat (48 + ((σ 124) (105 + 4 * p + (i57 : Int)).toNat))) (((x57.1) 15 + 1 + 1 : Int)).toNat (33)))) (((congrArg (fun s => k_up s 129 (k_u1 (k_u1 (k_u1 (x57.2) (((x57.1) 15 : Int)).toNat (32)) (((x57.1) 15 + 1 : Int)).toNat (48 + ((σ 124) (105 + 4 * p + (i57 : Int)).toNat))) (((x57.1) 15 + 1 + 1 : Int)).toNat (33))) (show k_up (k_up (k_up σ 123 (k_u1 (k_u1 (x57.1) 15 ((x57.1) 15 + 1)) 15 ((x57.1) 15 + 1 + 1))) 129 (k_u1 (k_u1 (x57.2) (((x57.1) 15 : Int)).toNat (32)) (((x57.1) 15 + 1 : Int)).toNat (48 + ((σ 124) (105 + 4 * p + (i57 : Int)).toNat)))) 123 (k_u1 (k_u1 (k_u1 (x57.1) 15 ((x57.1) 15 + 1)) 15 ((x57.1) 15 + 1 + 1)) 15 ((x57.1) 15 + 1 + 1 + 1)) = (k_up (k_up σ 123 (k_u1 (k_u1 (k_u1 (x57.1) 15 ((x57.1) 15 + 1)) 15 ((x57.1) 15 + 1 + 1)) 15 ((x57.1) 15 + 1 + 1 + 1))) 129 (k_u1 (k_u1 (x57.2) (((x57.1) 15 : Int)).toNat (32)) (((x57.1) 15 + 1 : Int)).toNat (48 + ((σ 124) (105 + 4 * p + (i57 : Int)).toNat)))) from ((k_up_comm (by decide)).trans (congrArg (fun s => k_up s 129 _) k_up_up)))).trans (show k_up (k_up (k_up σ 123 (k_u1 (k_u1 (k_u1 (x57.1) 15 ((x57.1) 15 + 1)) 15 ((x57.1) 15 + 1 + 1)) 15 ((x57.1) 15 + 1 + 1 + 1))) 129 (k_u1 (k_u1 (x57.2) (((x57.1) 15 : Int)).toNat (32)) (((x57.1) 15 + 1 : Int)).toNat (48 + ((σ 124) (105 + 4 * p + (i57 : Int)).toNat)))) 129 (k_u1 (k_u1 (k_u1 (x57.2) (((x57.1) 15 : Int)).toNat (32)) (((x57.1) 15 + 1 : Int)).toNat (48 + ((σ 124) (105 + 4 * p + (i57 : Int)).toNat))) (((x57.1) 15 + 1 + 1 : Int)).toNat (33)) = (k_up (k_up σ 123 (k_u1 (k_u1 (k_u1 (x57.1) 15 ((x57.1) 15 + 1)) 15 ((x57.1) 15 + 1 + 1)) 15 ((x57.1) 15 + 1 + 1 + 1))) 129 (k_u1 (k_u1 (k_u1 (x57.2) (((x57.1) 15 : Int)).toNat (32)) (((x57.1) 15 + 1 : Int)).toNat (48 + ((σ 124) (105 + 4 * p + (i57 : Int)).toNat))) (((x57.1) 15 + 1 + 1 : Int)).toNat (33))) from k_up_up))).symm ?_
              refine k_iinc (ls' := [(0, .ref 123), (1, .int (iI (p))), (2, .int (iI ((i57 : Int) + 1))), (3, .int (iI ((σ 124) (105 + 4 * p + (i57 : Int)).toNat)))]) dX8_writeTimetable_123 2 rfl (by decide) rfl rfl ?_
              refine k_goto (tgt := 57) dX8_writeTimetable_126 rfl ?_
              refine k_dropr (ls' := [(0, .ref 123), (1, .int (iI (p))), (2, .int (iI ((i57 : Int) + 1)))]) (ex := [(3, .int (iI ((σ 124) (105 + 4 * p + (i57 : Int)).toNat)))]) rfl ?_
              have y65 : (k_u1 (k_u1 (k_u1 (x57.1) 15 ((x57.1) 15 + 1)) 15 ((x57.1) 15 + 1 + 1)) 15 ((x57.1) 15 + 1 + 1 + 1)) 15 = (x57.1) 15 + 1 + 1 + 1 := rfl
              exact ih57 (((k_u1 (k_u1 (k_u1 (x57.1) 15 ((x57.1) 15 + 1)) 15 ((x57.1) 15 + 1 + 1)) 15 ((x57.1) 15 + 1 + 1 + 1)), (k_u1 (k_u1 (k_u1 (x57.2) (((x57.1) 15 : Int)).toNat (32)) (((x57.1) 15 + 1 : Int)).toNat (48 + ((σ 124) (105 + 4 * p + (i57 : Int)).toNat))) (((x57.1) 15 + 1 + 1 : Int)).toNat (33)))) (show (0 ≤ ((k_u1 (k_u1 (k_u1 (x57.1) 15 ((x57.1) 15 + 1)) 15 ((x57.1) 15 + 1 + 1)) 15 ((x57.1) 15 + 1 + 1 + 1))) 15 ∧ ((k_u1 (k_u1 (k_u1 (x57.1) 15 ((x57.1) 15 + 1)) 15 ((x57.1) 15 + 1 + 1)) 15 ((x57.1) 15 + 1 + 1 + 1))) 15 ≤ 3 + 3 * ((i57 + 1 : Nat) : Int)) ∧ ((k_F0 (k_u1 (k_u1 (k_u1 (x57.1) 15 ((x57.1) 15 + 1)) 15 ((x57.1) 15 + 1 + 1)) 15 ((x57.1) 15 + 1 + 1 + 1)))) ∧ (k_rg 0 127 (k_u1 (k_u1 (k_u1 (x57.2) (((x57.1) 15 : Int)).toNat (32)) (((x57.1) 15 + 1 : Int)).toNat (48 + ((σ 124) (105 + 4 * p + (i57 : Int)).toNat))) (((x57.1) 15 + 1 + 1 : Int)).toNat (33))) from ⟨(by omega), (show k_F0 (k_u1 (k_u1 (k_u1 (x57.1) 15 ((x57.1) 15 + 1)) 15 ((x57.1) 15 + 1 + 1)) 15 ((x57.1) 15 + 1 + 1 + 1)) from (k_F0_u (show k_F0 (k_u1 (k_u1 (x57.1) 15 ((x57.1) 15 + 1)) 15 ((x57.1) 15 + 1 + 1)) from (k_F0_u (show k_F0 (k_u1 (x57.1) 15 ((x57.1) 15 + 1)) from (k_F0_u hW57_123 (by omega))) (by omega))) (by omega))), (show k_rg 0 127 (k_u1 (k_u1 (k_u1 (x57.2) (((x57.1) 15 : Int)).toNat (32)) (((x57.1) 15 + 1 : Int)).toNat (48 + ((σ 124) (105 + 4 * p + (i57 : Int)).toNat))) (((x57.1) 15 + 1 + 1 : Int)).toNat (33)) from (k_rg_u (show k_rg 0 127 (k_u1 (k_u1 (x57.2) (((x57.1) 15 : Int)).toNat (32)) (((x57.1) 15 + 1 : Int)).toNat (48 + ((σ 124) (105 + 4 * p + (i57 : Int)).toNat))) from (k_rg_u (show k_rg 0 127 (k_u1 (x57.2) (((x57.1) 15 : Int)).toNat (32)) from (k_rg_u hW57_129 (by omega))) (by omega))) (by omega)))⟩)
        · refine k_ift (F := (fun t => (k_pP sh R_writeTimetable) ((r_writeTimetable_57_2 σ p) (k_it (b_writeTimetable_57_2 σ p) n57 (i57 + 1) t)))) h55 ?_
          refine k_bipush (v := 45) dX8_writeTimetable_86 (by decide) ?_
          refine k_goto (tgt := 96) dX8_writeTimetable_88 rfl ?_
          have q66 := k_nB (e := 45) (by omega)
          refine k_callVr (st := []) (as := [.int (iI (45))]) dX8_writeTimetable_96 oX8_writes w_2237 w_2239 w_79 rfl (by omega) rfl (Nat.le_of_ble_eq_true rfl) (by decide) (s_123 hsh) rfl (c8_writes (σ := (k_up (k_up σ 123 (k_u1 (x57.1) 15 ((x57.1) 15 + 1))) 129 (k_u1 (x57.2) (((x57.1) 15 : Int)).toNat (32)))) hsh (show 0 ≤ (x57.1) 15 + 1 ∧ (x57.1) 15 + 1 < 40 from by omega) (by omega)) ?_
          refine k_eqσ (σ' := (k_up (k_up σ 123 (k_u1 (k_u1 (x57.1) 15 ((x57.1) 15 + 1)) 15 ((x57.1) 15 + 1 + 1))) 129 (k_u1 (k_u1 (x57.2) (((x57.1) 15 : Int)).toNat (32)) (((x57.1) 15 + 1 : Int)).toNat (45)))) (((congrArg (fun s => k_up s 129 (k_u1 (k_u1 (x57.2) (((x57.1) 15 : Int)).toNat (32)) (((x57.1) 15 + 1 : Int)).toNat (45))) (show k_up (k_up (k_up σ 123 (k_u1 (x57.1) 15 ((x57.1) 15 + 1))) 129 (k_u1 (x57.2) (((x57.1) 15 : Int)).toNat (32))) 123 (k_u1 (k_u1 (x57.1) 15 ((x57.1) 15 + 1)) 15 ((x57.1) 15 + 1 + 1)) = (k_up (k_up σ 123 (k_u1 (k_u1 (x57.1) 15 ((x57.1) 15 + 1)) 15 ((x57.1) 15 + 1 + 1))) 129 (k_u1 (x57.2) (((x57.1) 15 : Int)).toNat (32))) from ((k_up_comm (by decide)).trans (congrArg (fun s => k_up s 129 _) k_up_up)))).trans (show k_up (k_up (k_up σ 123 (k_u1 (k_u1 (x57.1) 15 ((x57.1) 15 + 1)) 15 ((x57.1) 15 + 1 + 1))) 129 (k_u1 (x57.2) (((x57.1) 15 : Int)).toNat (32))) 129 (k_u1 (k_u1 (x57.2) (((x57.1) 15 : Int)).toNat (32)) (((x57.1) 15 + 1 : Int)).toNat (45)) = (k_up (k_up σ 123 (k_u1 (k_u1 (x57.1) 15 ((x57.1) 15 + 1)) 15 ((x57.1) 15 + 1 + 1))) 129 (k_u1 (k_u1 (x57.2) (((x57.1) 15 : Int)).toNat (32)) (((x57.1) 15 + 1 : Int)).toNat (45))) from k_up_up))).symm ?_
          refine k_iload_n dX8_writeTimetable_99 3 rfl rfl ?_
          refine k_iconst (v := (-1)) dX8_writeTimetable_100 rfl ?_
          refine k_icmp_eq (tgt := 123) dX8_writeTimetable_101 rfl ⟨by omega, by omega⟩ ⟨by decide, by decide⟩ (fun h68 => ?_) (fun h68 => ?_)
          · refine k_ift (F := (fun t => (k_pP sh R_writeTimetable) ((r_writeTimetable_57_2 σ p) (k_it (b_writeTimetable_57_2 σ p) n57 (i57 + 1) t)))) h68 ?_
            refine k_iinc (ls' := [(0, .ref 123), (1, .int (iI (p))), (2, .int (iI ((i57 : Int) + 1))), (3, .int (iI ((σ 124) (105 + 4 * p + (i57 : Int)).toNat)))]) dX8_writeTimetable_123 2 rfl (by decide) rfl rfl ?_
            refine k_goto (tgt := 57) dX8_writeTimetable_126 rfl ?_
            refine k_dropr (ls' := [(0, .ref 123), (1, .int (iI (p))), (2, .int (iI ((i57 : Int) + 1)))]) (ex := [(3, .int (iI ((σ 124) (105 + 4 * p + (i57 : Int)).toNat)))]) rfl ?_
            have y69 : (k_u1 (k_u1 (x57.1) 15 ((x57.1) 15 + 1)) 15 ((x57.1) 15 + 1 + 1)) 15 = (x57.1) 15 + 1 + 1 := rfl
            exact ih57 (((k_u1 (k_u1 (x57.1) 15 ((x57.1) 15 + 1)) 15 ((x57.1) 15 + 1 + 1)), (k_u1 (k_u1 (x57.2) (((x57.1) 15 : Int)).toNat (32)) (((x57.1) 15 + 1 : Int)).toNat (45)))) (show (0 ≤ ((k_u1 (k_u1 (x57.1) 15 ((x57.1) 15 + 1)) 15 ((x57.1) 15 + 1 + 1))) 15 ∧ ((k_u1 (k_u1 (x57.1) 15 ((x57.1) 15 + 1)) 15 ((x57.1) 15 + 1 + 1))) 15 ≤ 3 + 3 * ((i57 + 1 : Nat) : Int)) ∧ ((k_F0 (k_u1 (k_u1 (x57.1) 15 ((x57.1) 15 + 1)) 15 ((x57.1) 15 + 1 + 1)))) ∧ (k_rg 0 127 (k_u1 (k_u1 (x57.2) (((x57.1) 15 : Int)).toNat (32)) (((x57.1) 15 + 1 : Int)).toNat (45))) from ⟨(by omega), (show k_F0 (k_u1 (k_u1 (x57.1) 15 ((x57.1) 15 + 1)) 15 ((x57.1) 15 + 1 + 1)) from (k_F0_u (show k_F0 (k_u1 (x57.1) 15 ((x57.1) 15 + 1)) from (k_F0_u hW57_123 (by omega))) (by omega))), (show k_rg 0 127 (k_u1 (k_u1 (x57.2) (((x57.1) 15 : Int)).toNat (32)) (((x57.1) 15 + 1 : Int)).toNat (45)) from (k_rg_u (show k_rg 0 127 (k_u1 (x57.2) (((x57.1) 15 : Int)).toNat (32)) from (k_rg_u hW57_129 (by omega))) (by omega)))⟩)
          · refine k_iff (F := (fun t => (k_pP sh R_writeTimetable) ((r_writeTimetable_57_2 σ p) (k_it (b_writeTimetable_57_2 σ p) n57 (i57 + 1) t)))) h68 ?_
            refine k_iload_n dX8_writeTimetable_104 3 rfl rfl ?_
            refine k_aload_n dX8_writeTimetable_105 0 rfl rfl (by decide) ?_
            refine k_get (kf := 0) (v := .ref 124) dX8_writeTimetable_106 kcX8 w_1748 (by decide) (by decide) (s_123 hsh) rfl rfl ?_
            refine k_bipush (v := 93) dX8_writeTimetable_109 (by decide) ?_
            refine k_iload_n dX8_writeTimetable_111 1 rfl rfl ?_
            refine k_iadd dX8_writeTimetable_112 ?_
            refine k_iald dX8_writeTimetable_113 (by decide) (s_124 hsh) (by omega) (by omega) (by decide) ?_
            refine k_eqst (st' := [.int (iI ((σ 124) (93 + p).toNat)), .int (iI ((σ 124) (105 + 4 * p + (i57 : Int)).toNat))]) rfl ?_
            have q70 := k_Mo_res (hMA).2.1 (x := 93 + p) (by omega) (by omega)
            refine k_icmp_ne (tgt := 123) dX8_writeTimetable_114 rfl ⟨by omega, by omega⟩ ⟨by omega, by omega⟩ (fun h71 => ?_) (fun h71 => ?_)
            · refine k_iff (F := (fun t => (k_pP sh R_writeTimetable) ((r_writeTimetable_57_2 σ p) (k_it (b_writeTimetable_57_2 σ p) n57 (i57 + 1) t)))) h71 ?_
              refine k_iinc (ls' := [(0, .ref 123), (1, .int (iI (p))), (2, .int (iI ((i57 : Int) + 1))), (3, .int (iI ((σ 124) (105 + 4 * p + (i57 : Int)).toNat)))]) dX8_writeTimetable_123 2 rfl (by decide) rfl rfl ?_
              refine k_goto (tgt := 57) dX8_writeTimetable_126 rfl ?_
              refine k_dropr (ls' := [(0, .ref 123), (1, .int (iI (p))), (2, .int (iI ((i57 : Int) + 1)))]) (ex := [(3, .int (iI ((σ 124) (105 + 4 * p + (i57 : Int)).toNat)))]) rfl ?_
              have y72 : (k_u1 (k_u1 (x57.1) 15 ((x57.1) 15 + 1)) 15 ((x57.1) 15 + 1 + 1)) 15 = (x57.1) 15 + 1 + 1 := rfl
              exact ih57 (((k_u1 (k_u1 (x57.1) 15 ((x57.1) 15 + 1)) 15 ((x57.1) 15 + 1 + 1)), (k_u1 (k_u1 (x57.2) (((x57.1) 15 : Int)).toNat (32)) (((x57.1) 15 + 1 : Int)).toNat (45)))) (show (0 ≤ ((k_u1 (k_u1 (x57.1) 15 ((x57.1) 15 + 1)) 15 ((x57.1) 15 + 1 + 1))) 15 ∧ ((k_u1 (k_u1 (x57.1) 15 ((x57.1) 15 + 1)) 15 ((x57.1) 15 + 1 + 1))) 15 ≤ 3 + 3 * ((i57 + 1 : Nat) : Int)) ∧ ((k_F0 (k_u1 (k_u1 (x57.1) 15 ((x57.1) 15 + 1)) 15 ((x57.1) 15 + 1 + 1)))) ∧ (k_rg 0 127 (k_u1 (k_u1 (x57.2) (((x57.1) 15 : Int)).toNat (32)) (((x57.1) 15 + 1 : Int)).toNat (45))) from ⟨(by omega), (show k_F0 (k_u1 (k_u1 (x57.1) 15 ((x57.1) 15 + 1)) 15 ((x57.1) 15 + 1 + 1)) from (k_F0_u (show k_F0 (k_u1 (x57.1) 15 ((x57.1) 15 + 1)) from (k_F0_u hW57_123 (by omega))) (by omega))), (show k_rg 0 127 (k_u1 (k_u1 (x57.2) (((x57.1) 15 : Int)).toNat (32)) (((x57.1) 15 + 1 : Int)).toNat (45)) from (k_rg_u (show k_rg 0 127 (k_u1 (x57.2) (((x57.1) 15 : Int)).toNat (32)) from (k_rg_u hW57_129 (by omega))) (by omega)))⟩)
            · refine k_ift (F := (fun t => (k_pP sh R_writeTimetable) ((r_writeTimetable_57_2 σ p) (k_it (b_writeTimetable_57_2 σ p) n57 (i57 + 1) t)))) h71 ?_
              refine k_aload_n dX8_writeTimetable_117 0 rfl rfl (by decide) ?_
              refine k_bipush (v := 33) dX8_writeTimetable_118 (by decide) ?_
              have q73 := k_nB (e := 33) (by omega)
              refine k_callVr (st := []) (as := [.int (iI (33))]) dX8_writeTimetable_120 oX8_writes w_2237 w_2239 w_79 rfl (by omega) rfl (Nat.le_of_ble_eq_true rfl) (by decide) (s_123 hsh) rfl (c8_writes (σ := (k_up (k_up σ 123 (k_u1 (k_u1 (x57.1) 15 ((x57.1) 15 + 1)) 15 ((x57.1) 15 + 1 + 1))) 129 (k_u1 (k_u1 (x57.2) (((x57.1) 15 : Int)).toNat (32)) (((x57.1) 15 + 1 : Int)).toNat (45)))) hsh (show 0 ≤ (x57.1) 15 + 1 + 1 ∧ (x57.1) 15 + 1 + 1 < 40 from by omega) (by omega)) ?_
              refine k_eqσ (σ' := (k_up (k_up σ 123 (k_u1 (k_u1 (k_u1 (x57.1) 15 ((x57.1) 15 + 1)) 15 ((x57.1) 15 + 1 + 1)) 15 ((x57.1) 15 + 1 + 1 + 1))) 129 (k_u1 (k_u1 (k_u1 (x57.2) (((x57.1) 15 : Int)).toNat (32)) (((x57.1) 15 + 1 : Int)).toNat (45)) (((x57.1) 15 + 1 + 1 : Int)).toNat (33)))) (((congrArg (fun s => k_up s 129 (k_u1 (k_u1 (k_u1 (x57.2) (((x57.1) 15 : Int)).toNat (32)) (((x57.1) 15 + 1 : Int)).toNat (45)) (((x57.1) 15 + 1 + 1 : Int)).toNat (33))) (show k_up (k_up (k_up σ 123 (k_u1 (k_u1 (x57.1) 15 ((x57.1) 15 + 1)) 15 ((x57.1) 15 + 1 + 1))) 129 (k_u1 (k_u1 (x57.2) (((x57.1) 15 : Int)).toNat (32)) (((x57.1) 15 + 1 : Int)).toNat (45))) 123 (k_u1 (k_u1 (k_u1 (x57.1) 15 ((x57.1) 15 + 1)) 15 ((x57.1) 15 + 1 + 1)) 15 ((x57.1) 15 + 1 + 1 + 1)) = (k_up (k_up σ 123 (k_u1 (k_u1 (k_u1 (x57.1) 15 ((x57.1) 15 + 1)) 15 ((x57.1) 15 + 1 + 1)) 15 ((x57.1) 15 + 1 + 1 + 1))) 129 (k_u1 (k_u1 (x57.2) (((x57.1) 15 : Int)).toNat (32)) (((x57.1) 15 + 1 : Int)).toNat (45))) from ((k_up_comm (by decide)).trans (congrArg (fun s => k_up s 129 _) k_up_up)))).trans (show k_up (k_up (k_up σ 123 (k_u1 (k_u1 (k_u1 (x57.1) 15 ((x57.1) 15 + 1)) 15 ((x57.1) 15 + 1 + 1)) 15 ((x57.1) 15 + 1 + 1 + 1))) 129 (k_u1 (k_u1 (x57.2) (((x57.1) 15 : Int)).toNat (32)) (((x57.1) 15 + 1 : Int)).toNat (45))) 129 (k_u1 (k_u1 (k_u1 (x57.2) (((x57.1) 15 : Int)).toNat (32)) (((x57.1) 15 + 1 : Int)).toNat (45)) (((x57.1) 15 + 1 + 1 : Int)).toNat (33)) = (k_up (k_up σ 123 (k_u1 (k_u1 (k_u1 (x57.1) 15 ((x57.1) 15 + 1)) 15 ((x57.1) 15 + 1 + 1)) 15 ((x57.1) 15 + 1 + 1 + 1))) 129 (k_u1 (k_u1 (k_u1 (x57.2) (((x57.1) 15 : Int)).toNat (32)) (((x57.1) 15 + 1 : Int)).toNat (45)) (((x57.1) 15 + 1 + 1 : Int)).toNat (33))) from k_up_up))).symm ?_
              refine k_iinc (ls' := [(0, .ref 123), (1, .int (iI (p))), (2, .int (iI ((i57 : Int) + 1))), (3, .int (iI ((σ 124) (105 + 4 * p + (i57 : Int)).toNat)))]) dX8_writeTimetable_123 2 rfl (by decide) rfl rfl ?_
              refine k_goto (tgt := 57) dX8_writeTimetable_126 rfl ?_
              refine k_dropr (ls' := [(0, .ref 123), (1, .int (iI (p))), (2, .int (iI ((i57 : Int) + 1)))]) (ex := [(3, .int (iI ((σ 124) (105 + 4 * p + (i57 : Int)).toNat)))]) rfl ?_
              have y75 : (k_u1 (k_u1 (k_u1 (x57.1) 15 ((x57.1) 15 + 1)) 15 ((x57.1) 15 + 1 + 1)) 15 ((x57.1) 15 + 1 + 1 + 1)) 15 = (x57.1) 15 + 1 + 1 + 1 := rfl
              exact ih57 (((k_u1 (k_u1 (k_u1 (x57.1) 15 ((x57.1) 15 + 1)) 15 ((x57.1) 15 + 1 + 1)) 15 ((x57.1) 15 + 1 + 1 + 1)), (k_u1 (k_u1 (k_u1 (x57.2) (((x57.1) 15 : Int)).toNat (32)) (((x57.1) 15 + 1 : Int)).toNat (45)) (((x57.1) 15 + 1 + 1 : Int)).toNat (33)))) (show (0 ≤ ((k_u1 (k_u1 (k_u1 (x57.1) 15 ((x57.1) 15 + 1)) 15 ((x57.1) 15 + 1 + 1)) 15 ((x57.1) 15 + 1 + 1 + 1))) 15 ∧ ((k_u1 (k_u1 (k_u1 (x57.1) 15 ((x57.1) 15 + 1)) 15 ((x57.1) 15 + 1 + 1)) 15 ((x57.1) 15 + 1 + 1 + 1))) 15 ≤ 3 + 3 * ((i57 + 1 : Nat) : Int)) ∧ ((k_F0 (k_u1 (k_u1 (k_u1 (x57.1) 15 ((x57.1) 15 + 1)) 15 ((x57.1) 15 + 1 + 1)) 15 ((x57.1) 15 + 1 + 1 + 1)))) ∧ (k_rg 0 127 (k_u1 (k_u1 (k_u1 (x57.2) (((x57.1) 15 : Int)).toNat (32)) (((x57.1) 15 + 1 : Int)).toNat (45)) (((x57.1) 15 + 1 + 1 : Int)).toNat (33))) from ⟨(by omega), (show k_F0 (k_u1 (k_u1 (k_u1 (x57.1) 15 ((x57.1) 15 + 1)) 15 ((x57.1) 15 + 1 + 1)) 15 ((x57.1) 15 + 1 + 1 + 1)) from (k_F0_u (show k_F0 (k_u1 (k_u1 (x57.1) 15 ((x57.1) 15 + 1)) 15 ((x57.1) 15 + 1 + 1)) from (k_F0_u (show k_F0 (k_u1 (x57.1) 15 ((x57.1) 15 + 1)) from (k_F0_u hW57_123 (by omega))) (by omega))) (by omega))), (show k_rg 0 127 (k_u1 (k_u1 (k_u1 (x57.2) (((x57.1) 15 : Int)).toNat (32)) (((x57.1) 15 + 1 : Int)).toNat (45)) (((x57.1) 15 + 1 + 1 : Int)).toNat (33)) from (k_rg_u (show k_rg 0 127 (k_u1 (k_u1 (x57.2) (((x57.1) 15 : Int)).toNat (32)) (((x57.1) 15 + 1 : Int)).toNat (45)) from (k_rg_u (show k_rg 0 127 (k_u1 (x57.2) (((x57.1) 15 : Int)).toNat (32)) from (k_rg_u hW57_129 (by omega))) (by omega))) (by omega)))⟩)
  · have h2 := zb_0.mp h2
    refine k_iff (F := (k_pP sh R_writeTimetable)) h2 ?_
    refine k_aload_n dX8_writeTimetable_8 0 rfl rfl (by decide) ?_
    refine k_iconst (v := 1) dX8_writeTimetable_9 rfl ?_
    refine k_callVr (st := []) (as := [.int (iI (1))]) dX8_writeTimetable_10 oX8_fails w_1851 w_1853 w_31 rfl (by omega) rfl (Nat.le_of_ble_eq_true rfl) (by decide) (s_123 hsh) rfl (c8_fails hsh) ?_
    refine k_eqσ (σ' := (k_up σ 123 (k_u1 (σ 123) 7 (1)))) ((show k_up σ 123 (k_u1 (σ 123) 7 (1)) = (k_up σ 123 (k_u1 (σ 123) 7 (1))) from rfl)).symm ?_
    exact k_retiP dX8_writeTimetable_13 rfl rfl rfl (show (-1 ≤ (0 : Int) ∧ (0 : Int) ≤ 1000) ∧ k_MA (k_up σ 123 (k_u1 (σ 123) 7 (1))) from ⟨by omega, ⟨(show k_F0 (k_u1 (σ 123) 7 (1)) from (k_F0_u (hMA).1 (by omega))), (hMA).2.1, (hMA).2.2.1, (hMA).2.2.2.1, (hMA).2.2.2.2.1, (hMA).2.2.2.2.2.1, (hMA).2.2.2.2.2.2.1, (hMA).2.2.2.2.2.2.2.1, (hMA).2.2.2.2.2.2.2.2.1, (hMA).2.2.2.2.2.2.2.2.2.1, (hMA).2.2.2.2.2.2.2.2.2.2.1, (hMA).2.2.2.2.2.2.2.2.2.2.2.1, (hMA).2.2.2.2.2.2.2.2.2.2.2.2⟩⟩)
set_option maxHeartbeats 4000000 in
theorem c8_thrown (hsh : k_Main sh) : k_C E mX8_thrown 1 [.ref 123] sh σ 0 0 (k_ret (some (.int (iI (σ 123 7)))) sh σ) := by
  refine k_C_of (ls0 := [(0, .ref 123)]) rfl pnX8 (fun v hv => k_cat1 rfl hv) (Nat.le_of_ble_eq_true rfl) rfl ?_
  refine k_aload_n dX8_thrown_0 0 rfl rfl (by decide) ?_
  refine k_get (kf := 7) (v := .int (iI ((σ 123) 7))) dX8_thrown_1 kcX8 w_1755 (by decide) (by decide) (s_123 hsh) rfl rfl ?_
  exact k_reti dX8_thrown_4 rfl rfl (by first | rfl | omega)
abbrev R_lineAt (t : Int × (Nat → Nat → Int)) : Prop := (0 ≤ t.1 ∧ t.1 ≤ 127) ∧ k_MA t.2
def m_lineAt (σ : Nat → Nat → Int) (ix : Int) : Int × (Nat → Nat → Int) := if 0 ≤ ix ∧ ix ≤ (((σ 123) 15) - 1) then ((σ 129) (ix).toNat, (k_up σ 123 (k_u1 (σ 123) 7 (0)))) else (32, (k_up σ 123 (k_u1 (σ 123) 7 (1))))
set_option maxRecDepth 100000 in
set_option maxHeartbeats 4000000 in
theorem c8_lineAt (hsh : k_Main sh) (hMA : k_MA σ) {ix : Int} (h_ix : -2147483648 ≤ ix ∧ ix < 2147483648) : k_C E mX8_lineAt 3 [.ref 123, .int (iI (ix))] sh σ 0 0 ((k_pP sh R_lineAt) (m_lineAt σ ix)) := by
  refine k_C_of (ls0 := [(0, .ref 123), (1, .int (iI (ix)))]) rfl pnX8 (fun v hv => k_cat1 rfl hv) (Nat.le_of_ble_eq_true rfl) rfl ?_
  obtain ⟨⟨t0, t0b⟩, ⟨t1, t1b⟩, ⟨t2, t2b⟩, ⟨t3, t3b⟩, -⟩ := id hMA.2.1
  obtain ⟨⟨f6_0, g6_0⟩, ⟨f6_1, g6_1⟩, ⟨f6_2, g6_2⟩, ⟨f6_3, g6_3⟩, ⟨f6_4, g6_4⟩, ⟨f6_5, g6_5⟩, ⟨f6_6, g6_6⟩, ⟨f6_7, g6_7⟩, ⟨f6_8, g6_8⟩, ⟨f6_9, g6_9⟩, ⟨f6_10, g6_10⟩, ⟨f6_11, g6_11⟩, ⟨f6_12, g6_12⟩, ⟨f6_13, g6_13⟩⟩ := id hMA.1
  unfold m_lineAt
  refine k_aload_n dX8_lineAt_0 0 rfl rfl (by decide) ?_
  refine k_iload_n dX8_lineAt_1 1 rfl rfl ?_
  refine k_iconst (v := 0) dX8_lineAt_2 rfl ?_
  refine k_aload_n dX8_lineAt_3 0 rfl rfl (by decide) ?_
  refine k_get (kf := 15) (v := .int (iI ((σ 123) 15))) dX8_lineAt_4 kcX8 w_1763 (by decide) (by decide) (s_123 hsh) rfl rfl ?_
  refine k_iconst (v := 1) dX8_lineAt_7 rfl ?_
  refine k_isub dX8_lineAt_8 ?_
  refine k_callSr (st := [.ref 123]) (as := [.int (iI (ix)), .int (iI (0)), .int (iI (((σ 123) 15) - 1))]) dX8_lineAt_9 oX8_in w_1882 w_1883 rfl (by omega) rfl (Nat.le_of_ble_eq_true rfl) (c8_in ⟨by omega, by omega⟩ ⟨by omega, by omega⟩ ⟨by omega, by omega⟩) ?_
  refine k_if_eq (tgt := 19) dX8_lineAt_12 rfl (zb_kr _) (fun h2 => ?_) (fun h2 => ?_)
  · have h2 := zb_0.mp h2
    refine k_iff (F := (k_pP sh R_lineAt)) h2 ?_
    refine k_iconst (v := 1) dX8_lineAt_19 rfl ?_
    refine k_putfW (kf := 7) dX8_lineAt_20 kcX8 w_1755 (by decide) (by decide) (s_123 hsh) rfl rfl rfl rfl ?_
    refine k_eqσ (σ' := (k_up σ 123 (k_u1 (σ 123) 7 (1)))) rfl ?_
    refine k_aload_n dX8_lineAt_23 0 rfl rfl (by decide) ?_
    refine k_get (kf := 7) (v := .int (iI (1))) dX8_lineAt_24 kcX8 w_1755 (by decide) (by decide) (s_123 hsh) rfl rfl ?_
    refine k_if_ne (tgt := 39) dX8_lineAt_27 rfl ⟨by decide, by decide⟩ (fun h3 => ?_) (fun h3 => absurd h3 (by decide))
    refine k_bipush (v := 32) dX8_lineAt_39 (by decide) ?_
    exact k_retcP dX8_lineAt_41 rfl (k_narC (by omega)) rfl rfl (show (0 ≤ (32 : Int) ∧ (32 : Int) ≤ 127) ∧ k_MA (k_up σ 123 (k_u1 (σ 123) 7 (1))) from ⟨by omega, ⟨(show k_F0 (k_u1 (σ 123) 7 (1)) from (k_F0_u (hMA).1 (by omega))), (hMA).2.1, (hMA).2.2.1, (hMA).2.2.2.1, (hMA).2.2.2.2.1, (hMA).2.2.2.2.2.1, (hMA).2.2.2.2.2.2.1, (hMA).2.2.2.2.2.2.2.1, (hMA).2.2.2.2.2.2.2.2.1, (hMA).2.2.2.2.2.2.2.2.2.1, (hMA).2.2.2.2.2.2.2.2.2.2.1, (hMA).2.2.2.2.2.2.2.2.2.2.2.1, (hMA).2.2.2.2.2.2.2.2.2.2.2.2⟩⟩)
  · have h2 := zb_n0.mp h2
    refine k_ift (F := (k_pP sh R_lineAt)) h2 ?_
    refine k_iconst (v := 0) dX8_lineAt_15 rfl ?_
    refine k_goto (tgt := 20) dX8_lineAt_16 rfl ?_
    refine k_putfW (kf := 7) dX8_lineAt_20 kcX8 w_1755 (by decide) (by decide) (s_123 hsh) rfl rfl rfl rfl ?_
    refine k_eqσ (σ' := (k_up σ 123 (k_u1 (σ 123) 7 (0)))) rfl ?_
    refine k_aload_n dX8_lineAt_23 0 rfl rfl (by decide) ?_
    refine k_get (kf := 7) (v := .int (iI (0))) dX8_lineAt_24 kcX8 w_1755 (by decide) (by decide) (s_123 hsh) rfl rfl ?_
    refine k_if_ne (tgt := 39) dX8_lineAt_27 rfl ⟨by decide, by decide⟩ (fun h4 => absurd h4 (by decide)) (fun h4 => ?_)
    refine k_aload_n dX8_lineAt_30 0 rfl rfl (by decide) ?_
    refine k_get (kf := 13) (v := .ref 129) dX8_lineAt_31 kcX8 w_1761 (by decide) (by decide) (s_123 hsh) rfl rfl ?_
    refine k_iload_n dX8_lineAt_34 1 rfl rfl ?_
    refine k_cald dX8_lineAt_35 (by decide) (s_129 hsh) (by omega) (by omega) (by decide) ?_
    refine k_eqst (st' := [.int (iI ((σ 129) (ix).toNat))]) rfl ?_
    have q5 := (hMA).2.2.1 (ix).toNat
    refine k_goto (tgt := 41) dX8_lineAt_36 rfl ?_
    exact k_retcP dX8_lineAt_41 rfl (k_narC (by omega)) rfl rfl (show (0 ≤ (σ 129) (ix).toNat ∧ (σ 129) (ix).toNat ≤ 127) ∧ k_MA (k_up σ 123 (k_u1 (σ 123) 7 (0))) from ⟨by omega, ⟨(show k_F0 (k_u1 (σ 123) 7 (0)) from (k_F0_u (hMA).1 (by omega))), (hMA).2.1, (hMA).2.2.1, (hMA).2.2.2.1, (hMA).2.2.2.2.1, (hMA).2.2.2.2.2.1, (hMA).2.2.2.2.2.2.1, (hMA).2.2.2.2.2.2.2.1, (hMA).2.2.2.2.2.2.2.2.1, (hMA).2.2.2.2.2.2.2.2.2.1, (hMA).2.2.2.2.2.2.2.2.2.2.1, (hMA).2.2.2.2.2.2.2.2.2.2.2.1, (hMA).2.2.2.2.2.2.2.2.2.2.2.2⟩⟩)
abbrev R_type (t : Int × (Nat → Nat → Int)) : Prop := (-1 ≤ t.1 ∧ t.1 ≤ 1000) ∧ k_MA t.2
def m_type (σ : Nat → Nat → Int) (c : Int) : Int × (Nat → Nat → Int) := if 32 ≤ c ∧ c ≤ 126 then if ((σ 123) 16) = 60 then (0, (k_up σ 123 (k_u1 (σ 123) 7 (2)))) else (((σ 123) 16) + 1, (k_up (k_up σ 123 (k_u1 (k_u1 (σ 123) 16 (((σ 123) 16) + 1)) 7 (0))) 130 (k_u1 (σ 130) ((σ 123) 16).toNat (c)))) else (0, (k_up σ 123 (k_u1 (σ 123) 7 (1))))
set_option maxRecDepth 100000 in
set_option maxHeartbeats 4000000 in
theorem c8_type (hsh : k_Main sh) (hMA : k_MA σ) {c : Int} (h_c : 0 ≤ c ∧ c < 65536) : k_C E mX8_type 3 [.ref 123, .int (iI (c))] sh σ 0 0 ((k_pP sh R_type) (m_type σ c)) := by
  refine k_C_of (ls0 := [(0, .ref 123), (1, .int (iI (c)))]) rfl pnX8 (fun v hv => k_cat1 rfl hv) (Nat.le_of_ble_eq_true rfl) rfl ?_
  obtain ⟨⟨t0, t0b⟩, ⟨t1, t1b⟩, ⟨t2, t2b⟩, ⟨t3, t3b⟩, -⟩ := id hMA.2.1
  obtain ⟨⟨f7_0, g7_0⟩, ⟨f7_1, g7_1⟩, ⟨f7_2, g7_2⟩, ⟨f7_3, g7_3⟩, ⟨f7_4, g7_4⟩, ⟨f7_5, g7_5⟩, ⟨f7_6, g7_6⟩, ⟨f7_7, g7_7⟩, ⟨f7_8, g7_8⟩, ⟨f7_9, g7_9⟩, ⟨f7_10, g7_10⟩, ⟨f7_11, g7_11⟩, ⟨f7_12, g7_12⟩, ⟨f7_13, g7_13⟩⟩ := id hMA.1
  unfold m_type
  refine k_iload_n dX8_type_0 1 rfl rfl ?_
  refine k_bipush (v := 32) dX8_type_1 (by decide) ?_
  refine k_bipush (v := 126) dX8_type_3 (by decide) ?_
  refine k_callSr (st := []) (as := [.int (iI (c)), .int (iI (32)), .int (iI (126))]) dX8_type_5 oX8_in w_1882 w_1883 rfl (by omega) rfl (Nat.le_of_ble_eq_true rfl) (c8_in ⟨by omega, by omega⟩ ⟨by omega, by omega⟩ ⟨by omega, by omega⟩) ?_
  refine k_if_ne (tgt := 17) dX8_type_8 rfl (zb_kr _) (fun h2 => ?_) (fun h2 => ?_)
  · have h2 := zb_n0.mp h2
    refine k_ift (F := (k_pP sh R_type)) h2 ?_
    refine k_aload_n dX8_type_17 0 rfl rfl (by decide) ?_
    refine k_get (kf := 16) (v := .int (iI ((σ 123) 16))) dX8_type_18 kcX8 w_1764 (by decide) (by decide) (s_123 hsh) rfl rfl ?_
    refine k_bipush (v := 60) dX8_type_21 (by decide) ?_
    refine k_icmp_ne (tgt := 32) dX8_type_23 rfl ⟨by omega, by omega⟩ ⟨by decide, by decide⟩ (fun h3 => ?_) (fun h3 => ?_)
    · refine k_iff (F := (k_pP sh R_type)) h3 ?_
      refine k_aload_n dX8_type_32 0 rfl rfl (by decide) ?_
      refine k_get (kf := 14) (v := .ref 130) dX8_type_33 kcX8 w_1762 (by decide) (by decide) (s_123 hsh) rfl rfl ?_
      refine k_aload_n dX8_type_36 0 rfl rfl (by decide) ?_
      refine k_get (kf := 16) (v := .int (iI ((σ 123) 16))) dX8_type_37 kcX8 w_1764 (by decide) (by decide) (s_123 hsh) rfl rfl ?_
      refine k_iload_n dX8_type_40 1 rfl rfl ?_
      refine k_castW dX8_type_41 (by decide) (s_130 hsh) (by omega) (by omega) (by decide) (k_nC (by omega)) ?_
      refine k_eqσ (σ' := (k_up σ 130 (k_u1 (σ 130) ((σ 123) 16).toNat (c)))) rfl ?_
      refine k_aload_n dX8_type_42 0 rfl rfl (by decide) ?_
      refine k_dup dX8_type_43 rfl ?_
      refine k_get (kf := 16) (v := .int (iI ((σ 123) 16))) dX8_type_44 kcX8 w_1764 (by decide) (by decide) (s_123 hsh) rfl rfl ?_
      refine k_iconst (v := 1) dX8_type_47 rfl ?_
      refine k_iadd dX8_type_48 ?_
      refine k_putfW (kf := 16) dX8_type_49 kcX8 w_1764 (by decide) (by decide) (s_123 hsh) rfl rfl rfl rfl ?_
      refine k_eqσ (σ' := (k_up (k_up σ 123 (k_u1 (σ 123) 16 (((σ 123) 16) + 1))) 130 (k_u1 (σ 130) ((σ 123) 16).toNat (c)))) (show k_up (k_up σ 130 (k_u1 (σ 130) ((σ 123) 16).toNat (c))) 123 (k_u1 (σ 123) 16 (((σ 123) 16) + 1)) = _ from (k_up_comm (by decide))).symm ?_
      refine k_aload_n dX8_type_52 0 rfl rfl (by decide) ?_
      refine k_aload_n dX8_type_53 0 rfl rfl (by decide) ?_
      refine k_get (kf := 16) (v := .int (iI (((σ 123) 16) + 1))) dX8_type_54 kcX8 w_1764 (by decide) (by decide) (s_123 hsh) rfl rfl ?_
      refine k_callVr (st := []) (as := [.int (iI (((σ 123) 16) + 1))]) dX8_type_57 oX8_tells w_1855 w_1857 w_32 rfl (by omega) rfl (Nat.le_of_ble_eq_true rfl) (by decide) (s_123 hsh) rfl (c8_tells hsh) ?_
      refine k_eqσ (σ' := (k_up (k_up σ 123 (k_u1 (k_u1 (σ 123) 16 (((σ 123) 16) + 1)) 7 (0))) 130 (k_u1 (σ 130) ((σ 123) 16).toNat (c)))) ((show k_up (k_up (k_up σ 123 (k_u1 (σ 123) 16 (((σ 123) 16) + 1))) 130 (k_u1 (σ 130) ((σ 123) 16).toNat (c))) 123 (k_u1 (k_u1 (σ 123) 16 (((σ 123) 16) + 1)) 7 (0)) = (k_up (k_up σ 123 (k_u1 (k_u1 (σ 123) 16 (((σ 123) 16) + 1)) 7 (0))) 130 (k_u1 (σ 130) ((σ 123) 16).toNat (c))) from ((k_up_comm (by decide)).trans (congrArg (fun s => k_up s 130 _) k_up_up)))).symm ?_
      exact k_retiP dX8_type_60 rfl rfl rfl (show (-1 ≤ ((σ 123) 16) + 1 ∧ ((σ 123) 16) + 1 ≤ 1000) ∧ k_MA (k_up (k_up σ 123 (k_u1 (k_u1 (σ 123) 16 (((σ 123) 16) + 1)) 7 (0))) 130 (k_u1 (σ 130) ((σ 123) 16).toNat (c))) from ⟨by omega, ⟨(show k_F0 (k_u1 (k_u1 (σ 123) 16 (((σ 123) 16) + 1)) 7 (0)) from (k_F0_u (show k_F0 (k_u1 (σ 123) 16 (((σ 123) 16) + 1)) from (k_F0_u (hMA).1 (by omega))) (by omega))), (hMA).2.1, (hMA).2.2.1, (show k_rg 0 127 (k_u1 (σ 130) ((σ 123) 16).toNat (c)) from (k_rg_u (hMA).2.2.2.1 (by omega))), (hMA).2.2.2.2.1, (hMA).2.2.2.2.2.1, (hMA).2.2.2.2.2.2.1, (hMA).2.2.2.2.2.2.2.1, (hMA).2.2.2.2.2.2.2.2.1, (hMA).2.2.2.2.2.2.2.2.2.1, (hMA).2.2.2.2.2.2.2.2.2.2.1, (hMA).2.2.2.2.2.2.2.2.2.2.2.1, (hMA).2.2.2.2.2.2.2.2.2.2.2.2⟩⟩)
    · refine k_ift (F := (k_pP sh R_type)) h3 ?_
      refine k_aload_n dX8_type_26 0 rfl rfl (by decide) ?_
      refine k_iconst (v := 2) dX8_type_27 rfl ?_
      refine k_callVr (st := []) (as := [.int (iI (2))]) dX8_type_28 oX8_fails w_1851 w_1853 w_31 rfl (by omega) rfl (Nat.le_of_ble_eq_true rfl) (by decide) (s_123 hsh) rfl (c8_fails hsh) ?_
      refine k_eqσ (σ' := (k_up σ 123 (k_u1 (σ 123) 7 (2)))) ((show k_up σ 123 (k_u1 (σ 123) 7 (2)) = (k_up σ 123 (k_u1 (σ 123) 7 (2))) from rfl)).symm ?_
      exact k_retiP dX8_type_31 rfl rfl rfl (show (-1 ≤ (0 : Int) ∧ (0 : Int) ≤ 1000) ∧ k_MA (k_up σ 123 (k_u1 (σ 123) 7 (2))) from ⟨by omega, ⟨(show k_F0 (k_u1 (σ 123) 7 (2)) from (k_F0_u (hMA).1 (by omega))), (hMA).2.1, (hMA).2.2.1, (hMA).2.2.2.1, (hMA).2.2.2.2.1, (hMA).2.2.2.2.2.1, (hMA).2.2.2.2.2.2.1, (hMA).2.2.2.2.2.2.2.1, (hMA).2.2.2.2.2.2.2.2.1, (hMA).2.2.2.2.2.2.2.2.2.1, (hMA).2.2.2.2.2.2.2.2.2.2.1, (hMA).2.2.2.2.2.2.2.2.2.2.2.1, (hMA).2.2.2.2.2.2.2.2.2.2.2.2⟩⟩)
  · have h2 := zb_0.mp h2
    refine k_iff (F := (k_pP sh R_type)) h2 ?_
    refine k_aload_n dX8_type_11 0 rfl rfl (by decide) ?_
    refine k_iconst (v := 1) dX8_type_12 rfl ?_
    refine k_callVr (st := []) (as := [.int (iI (1))]) dX8_type_13 oX8_fails w_1851 w_1853 w_31 rfl (by omega) rfl (Nat.le_of_ble_eq_true rfl) (by decide) (s_123 hsh) rfl (c8_fails hsh) ?_
    refine k_eqσ (σ' := (k_up σ 123 (k_u1 (σ 123) 7 (1)))) ((show k_up σ 123 (k_u1 (σ 123) 7 (1)) = (k_up σ 123 (k_u1 (σ 123) 7 (1))) from rfl)).symm ?_
    exact k_retiP dX8_type_16 rfl rfl rfl (show (-1 ≤ (0 : Int) ∧ (0 : Int) ≤ 1000) ∧ k_MA (k_up σ 123 (k_u1 (σ 123) 7 (1))) from ⟨by omega, ⟨(show k_F0 (k_u1 (σ 123) 7 (1)) from (k_F0_u (hMA).1 (by omega))), (hMA).2.1, (hMA).2.2.1, (hMA).2.2.2.1, (hMA).2.2.2.2.1, (hMA).2.2.2.2.2.1, (hMA).2.2.2.2.2.2.1, (hMA).2.2.2.2.2.2.2.1, (hMA).2.2.2.2.2.2.2.2.1, (hMA).2.2.2.2.2.2.2.2.2.1, (hMA).2.2.2.2.2.2.2.2.2.2.1, (hMA).2.2.2.2.2.2.2.2.2.2.2.1, (hMA).2.2.2.2.2.2.2.2.2.2.2.2⟩⟩)
def m_isDigit (f : Nat → Int) (bu : Nat → Int) (kk : Int) : Bool := if kk < (f 28) then if (bu (kk).toNat) < 48 then false else if (bu (kk).toNat) ≤ 57 then true else false else false
set_option maxRecDepth 100000 in
set_option maxHeartbeats 4000000 in
theorem c8_isDigit (hsh : k_Main sh) {kk : Int} (h_kk : 0 ≤ kk ∧ kk < 70) (hF : k_F0 (σ 123)) (hB : k_rg 0 127 (σ 130)) : k_C E mX8_isDigit 1 [.ref 123, .int (iI (kk))] sh σ 0 0 ((k_pB sh σ) (m_isDigit (σ 123) (σ 130) kk)) := by
  refine k_C_of (ls0 := [(0, .ref 123), (1, .int (iI (kk)))]) rfl pnX8 (fun v hv => k_cat1 rfl hv) (Nat.le_of_ble_eq_true rfl) rfl ?_
  obtain ⟨-, -, -, -, -, -, -, -, -, -, -, ⟨f28, g28⟩, -⟩ := id hF
  unfold m_isDigit
  refine k_iload_n dX8_isDigit_0 1 rfl rfl ?_
  refine k_aload_n dX8_isDigit_1 0 rfl rfl (by decide) ?_
  refine k_get (kf := 28) (v := .int (iI ((σ 123) 28))) dX8_isDigit_2 kcX8 w_1776 (by decide) (by decide) (s_123 hsh) rfl rfl ?_
  refine k_icmp_ge (tgt := 34) dX8_isDigit_5 rfl ⟨by omega, by omega⟩ ⟨by omega, by omega⟩ (fun h1 => ?_) (fun h1 => ?_)
  · refine k_iff (F := (k_pB sh σ)) (Int.not_lt.mpr h1) ?_
    refine k_iconst (v := 0) dX8_isDigit_34 rfl ?_
    exact k_retzP dX8_isDigit_35 rfl (Or.inl rfl) rfl k_lfF True.intro
  · refine k_ift (F := (k_pB sh σ)) h1 ?_
    refine k_aload_n dX8_isDigit_8 0 rfl rfl (by decide) ?_
    refine k_get (kf := 14) (v := .ref 130) dX8_isDigit_9 kcX8 w_1762 (by decide) (by decide) (s_123 hsh) rfl rfl ?_
    refine k_iload_n dX8_isDigit_12 1 rfl rfl ?_
    refine k_cald dX8_isDigit_13 (by decide) (s_130 hsh) (by omega) (by omega) (by decide) ?_
    have q2 := hB (kk).toNat
    refine k_bipush (v := 48) dX8_isDigit_14 (by decide) ?_
    refine k_icmp_lt (tgt := 34) dX8_isDigit_16 rfl ⟨by omega, by omega⟩ ⟨by decide, by decide⟩ (fun h3 => ?_) (fun h3 => ?_)
    · refine k_ift (F := (k_pB sh σ)) h3 ?_
      refine k_iconst (v := 0) dX8_isDigit_34 rfl ?_
      exact k_retzP dX8_isDigit_35 rfl (Or.inl rfl) rfl k_lfF True.intro
    · refine k_iff (F := (k_pB sh σ)) (Int.not_lt.mpr h3) ?_
      refine k_aload_n dX8_isDigit_19 0 rfl rfl (by decide) ?_
      refine k_get (kf := 14) (v := .ref 130) dX8_isDigit_20 kcX8 w_1762 (by decide) (by decide) (s_123 hsh) rfl rfl ?_
      refine k_iload_n dX8_isDigit_23 1 rfl rfl ?_
      refine k_cald dX8_isDigit_24 (by decide) (s_130 hsh) (by omega) (by omega) (by decide) ?_
      have q4 := hB (kk).toNat
      refine k_bipush (v := 57) dX8_isDigit_25 (by decide) ?_
      refine k_icmp_gt (tgt := 34) dX8_isDigit_27 rfl ⟨by omega, by omega⟩ ⟨by decide, by decide⟩ (fun h5 => ?_) (fun h5 => ?_)
      · refine k_iff (F := (k_pB sh σ)) (Int.not_le.mpr h5) ?_
        refine k_iconst (v := 0) dX8_isDigit_34 rfl ?_
        exact k_retzP dX8_isDigit_35 rfl (Or.inl rfl) rfl k_lfF True.intro
      · refine k_ift (F := (k_pB sh σ)) h5 ?_
        refine k_iconst (v := 1) dX8_isDigit_30 rfl ?_
        refine k_goto (tgt := 35) dX8_isDigit_31 rfl ?_
        exact k_retzP dX8_isDigit_35 rfl (Or.inr rfl) rfl k_lfT True.intro
end K_M5
