/-! ===== THE MODEL: its readers ===== -/
section K_M1
variable {E : k_E} {sh : List k_Sh} {σ : Nat → Nat → Int} {r : Nat → Int}
theorem k_zbc {P Q : Prop} [Decidable P] [Decidable Q] (h : P ↔ Q) : zb P = zb Q := by
  unfold zb
  by_cases q : P
  · rw [if_pos q, if_pos (h.mp q)]
  · rw [if_neg q, if_neg (fun z => q (h.mpr z))]
set_option maxHeartbeats 4000000 in
theorem c8_in {v a b : Int} (hv : -2147483648 ≤ v ∧ v < 2147483648) (ha : -2147483648 ≤ a ∧ a < 2147483648) (hb : -2147483648 ≤ b ∧ b < 2147483648) : k_C E mX8_in 1 [.int (iI (v)), .int (iI (a)), .int (iI (b))] sh σ 0 0 (k_ret (some (.int (iI (zb (a ≤ v ∧ v ≤ b))))) sh σ) := by
  refine k_C_of (ls0 := [(0, .int (iI (v))), (1, .int (iI (a))), (2, .int (iI (b)))]) rfl pnX8 (fun v hv => k_cat1 rfl hv) (Nat.le_of_ble_eq_true rfl) rfl ?_
  refine k_iload_n dX8_in_0 0 rfl rfl ?_
  refine k_iload_n dX8_in_1 1 rfl rfl ?_
  refine k_icmp_lt (tgt := 14) dX8_in_2 rfl ⟨by omega, by omega⟩ ⟨by omega, by omega⟩ (fun h_1 => ?_) (fun h_1 => ?_)
  · refine k_iconst (v := 0) dX8_in_14 rfl ?_
    exact k_retz dX8_in_15 rfl (Or.inl rfl) rfl (by first | (rw [zb_t ⟨by omega, by omega⟩]) | (rw [zb_f (by omega)]))
  · refine k_iload_n dX8_in_5 0 rfl rfl ?_
    refine k_iload_n dX8_in_6 2 rfl rfl ?_
    refine k_icmp_gt (tgt := 14) dX8_in_7 rfl ⟨by omega, by omega⟩ ⟨by omega, by omega⟩ (fun h_2 => ?_) (fun h_2 => ?_)
    · refine k_iconst (v := 0) dX8_in_14 rfl ?_
      exact k_retz dX8_in_15 rfl (Or.inl rfl) rfl (by first | (rw [zb_t ⟨by omega, by omega⟩]) | (rw [zb_f (by omega)]))
    · refine k_iconst (v := 1) dX8_in_10 rfl ?_
      refine k_goto (tgt := 15) dX8_in_11 rfl ?_
      exact k_retz dX8_in_15 rfl (Or.inr rfl) rfl (by first | (rw [zb_t ⟨by omega, by omega⟩]) | (rw [zb_f (by omega)]))
set_option maxHeartbeats 4000000 in
theorem c8_isSubject (hsh : k_Main sh) (hM : k_Mo (σ 124)) {v : Int} (hv : -2147483648 ≤ v ∧ v < 2147483648) : k_C E mX8_isSubject 2 [.ref 123, .int (iI (v))] sh σ 0 0 (k_ret (some (.int (iI (zb (0 ≤ v ∧ v < σ 124 0))))) sh σ) := by
  refine k_C_of (ls0 := [(0, .ref 123), (1, .int (iI (v)))]) rfl pnX8 (fun v hv => k_cat1 rfl hv) (Nat.le_of_ble_eq_true rfl) rfl ?_
  obtain ⟨⟨t0, t0b⟩, ⟨t1, t1b⟩, ⟨t2, t2b⟩, ⟨t3, t3b⟩, -⟩ := id hM
  refine k_iload_n dX8_isSubject_0 1 rfl rfl ?_
  refine k_iconst (v := 0) dX8_isSubject_1 rfl ?_
  refine k_aload_n dX8_isSubject_2 0 rfl rfl (by decide) ?_
  refine k_get (kf := 0) (v := .ref 124) dX8_isSubject_3 kcX8 w_1747 (by decide) (by decide) (s_123 hsh) rfl rfl ?_
  refine k_iconst (v := 0) dX8_isSubject_6 rfl ?_
  refine k_iald dX8_isSubject_7 (by decide) (s_124 hsh) (by omega) (by omega) (by decide) ?_
  refine k_eqst (st' := [.int (iI ((σ 124) 0)), .int (iI (0)), .int (iI (v))]) rfl ?_
  refine k_iconst (v := 1) dX8_isSubject_8 rfl ?_
  refine k_isub dX8_isSubject_9 ?_
  refine k_callSr (st := []) (as := [.int (iI (v)), .int (iI (0)), .int (iI (((σ 124) 0) - 1))]) dX8_isSubject_10 oX8_in w_1881 w_1882 rfl (by omega) rfl (Nat.le_of_ble_eq_true rfl) (c8_in ⟨by omega, by omega⟩ ⟨by omega, by omega⟩ ⟨by omega, by omega⟩) ?_
  exact k_retz dX8_isSubject_13 rfl (zb_z _) rfl (by exact k_zbc (by omega))
set_option maxHeartbeats 4000000 in
theorem c8_isBlock (hsh : k_Main sh) (hM : k_Mo (σ 124)) {v : Int} (hv : -2147483648 ≤ v ∧ v < 2147483648) : k_C E mX8_isBlock 2 [.ref 123, .int (iI (v))] sh σ 0 0 (k_ret (some (.int (iI (zb (0 ≤ v ∧ v < σ 124 1))))) sh σ) := by
  refine k_C_of (ls0 := [(0, .ref 123), (1, .int (iI (v)))]) rfl pnX8 (fun v hv => k_cat1 rfl hv) (Nat.le_of_ble_eq_true rfl) rfl ?_
  obtain ⟨⟨t0, t0b⟩, ⟨t1, t1b⟩, ⟨t2, t2b⟩, ⟨t3, t3b⟩, -⟩ := id hM
  refine k_iload_n dX8_isBlock_0 1 rfl rfl ?_
  refine k_iconst (v := 0) dX8_isBlock_1 rfl ?_
  refine k_aload_n dX8_isBlock_2 0 rfl rfl (by decide) ?_
  refine k_get (kf := 0) (v := .ref 124) dX8_isBlock_3 kcX8 w_1747 (by decide) (by decide) (s_123 hsh) rfl rfl ?_
  refine k_iconst (v := 1) dX8_isBlock_6 rfl ?_
  refine k_iald dX8_isBlock_7 (by decide) (s_124 hsh) (by omega) (by omega) (by decide) ?_
  refine k_eqst (st' := [.int (iI ((σ 124) 1)), .int (iI (0)), .int (iI (v))]) rfl ?_
  refine k_iconst (v := 1) dX8_isBlock_8 rfl ?_
  refine k_isub dX8_isBlock_9 ?_
  refine k_callSr (st := []) (as := [.int (iI (v)), .int (iI (0)), .int (iI (((σ 124) 1) - 1))]) dX8_isBlock_10 oX8_in w_1881 w_1882 rfl (by omega) rfl (Nat.le_of_ble_eq_true rfl) (c8_in ⟨by omega, by omega⟩ ⟨by omega, by omega⟩ ⟨by omega, by omega⟩) ?_
  exact k_retz dX8_isBlock_13 rfl (zb_z _) rfl (by exact k_zbc (by omega))
set_option maxHeartbeats 4000000 in
theorem c8_isPupil (hsh : k_Main sh) (hM : k_Mo (σ 124)) {v : Int} (hv : -2147483648 ≤ v ∧ v < 2147483648) : k_C E mX8_isPupil 2 [.ref 123, .int (iI (v))] sh σ 0 0 (k_ret (some (.int (iI (zb (0 ≤ v ∧ v < σ 124 2))))) sh σ) := by
  refine k_C_of (ls0 := [(0, .ref 123), (1, .int (iI (v)))]) rfl pnX8 (fun v hv => k_cat1 rfl hv) (Nat.le_of_ble_eq_true rfl) rfl ?_
  obtain ⟨⟨t0, t0b⟩, ⟨t1, t1b⟩, ⟨t2, t2b⟩, ⟨t3, t3b⟩, -⟩ := id hM
  refine k_iload_n dX8_isPupil_0 1 rfl rfl ?_
  refine k_iconst (v := 0) dX8_isPupil_1 rfl ?_
  refine k_aload_n dX8_isPupil_2 0 rfl rfl (by decide) ?_
  refine k_get (kf := 0) (v := .ref 124) dX8_isPupil_3 kcX8 w_1747 (by decide) (by decide) (s_123 hsh) rfl rfl ?_
  refine k_iconst (v := 2) dX8_isPupil_6 rfl ?_
  refine k_iald dX8_isPupil_7 (by decide) (s_124 hsh) (by omega) (by omega) (by decide) ?_
  refine k_eqst (st' := [.int (iI ((σ 124) 2)), .int (iI (0)), .int (iI (v))]) rfl ?_
  refine k_iconst (v := 1) dX8_isPupil_8 rfl ?_
  refine k_isub dX8_isPupil_9 ?_
  refine k_callSr (st := []) (as := [.int (iI (v)), .int (iI (0)), .int (iI (((σ 124) 2) - 1))]) dX8_isPupil_10 oX8_in w_1881 w_1882 rfl (by omega) rfl (Nat.le_of_ble_eq_true rfl) (c8_in ⟨by omega, by omega⟩ ⟨by omega, by omega⟩ ⟨by omega, by omega⟩) ?_
  exact k_retz dX8_isPupil_13 rfl (zb_z _) rfl (by exact k_zbc (by omega))
set_option maxHeartbeats 4000000 in
theorem c8_hasOpen (hsh : k_Main sh) (hM : k_Mo (σ 124)) {s b : Int} (hs : 0 ≤ s ∧ s < 7) (hb : 0 ≤ b ∧ b < 4) : k_C E mX8_hasOpen 1 [.ref 123, .int (iI (s)), .int (iI (b))] sh σ 0 0 (k_ret (some (.int (iI (zb (σ 124 (17 + 4 * s + b).toNat = 1))))) sh σ) := by
  refine k_C_of (ls0 := [(0, .ref 123), (1, .int (iI (s))), (2, .int (iI (b)))]) rfl pnX8 (fun v hv => k_cat1 rfl hv) (Nat.le_of_ble_eq_true rfl) rfl ?_
  obtain ⟨⟨t0, t0b⟩, ⟨t1, t1b⟩, ⟨t2, t2b⟩, ⟨t3, t3b⟩, -⟩ := id hM
  refine k_aload_n dX8_hasOpen_0 0 rfl rfl (by decide) ?_
  refine k_get (kf := 0) (v := .ref 124) dX8_hasOpen_1 kcX8 w_1747 (by decide) (by decide) (s_123 hsh) rfl rfl ?_
  refine k_bipush (v := 17) dX8_hasOpen_4 (by decide) ?_
  refine k_iconst (v := 4) dX8_hasOpen_6 rfl ?_
  refine k_iload_n dX8_hasOpen_7 1 rfl rfl ?_
  refine k_imul dX8_hasOpen_8 ?_
  refine k_iadd dX8_hasOpen_9 ?_
  refine k_iload_n dX8_hasOpen_10 2 rfl rfl ?_
  refine k_iadd dX8_hasOpen_11 ?_
  refine k_iald dX8_hasOpen_12 (by decide) (s_124 hsh) (by omega) (by omega) (by decide) ?_
  have q1 := k_Mo_opn hM (x := (17 + (4 * s)) + b) (by omega) (by omega)
  refine k_iconst (v := 1) dX8_hasOpen_13 rfl ?_
  refine k_icmp_ne (tgt := 21) dX8_hasOpen_14 rfl ⟨by omega, by omega⟩ ⟨by decide, by decide⟩ (fun h_2 => ?_) (fun h_2 => ?_)
  · refine k_iconst (v := 0) dX8_hasOpen_21 rfl ?_
    exact k_retz dX8_hasOpen_22 rfl (Or.inl rfl) rfl (by first | (rw [zb_t ‹_›]) | (rw [zb_f ‹_›]))
  · refine k_iconst (v := 1) dX8_hasOpen_17 rfl ?_
    refine k_goto (tgt := 22) dX8_hasOpen_18 rfl ?_
    exact k_retz dX8_hasOpen_22 rfl (Or.inr rfl) rfl (by first | (rw [zb_t ‹_›]) | (rw [zb_f ‹_›]))
set_option maxHeartbeats 4000000 in
theorem c8_subjectOf (hsh : k_Main sh) (hM : k_Mo (σ 124)) {a b : Int} (ha : 0 ≤ a ∧ a < 12) (hb : 0 ≤ b ∧ b < 4) : k_C E mX8_subjectOf 1 [.ref 123, .int (iI (a)), .int (iI (b))] sh σ 0 0 (k_ret (some (.int (iI (σ 124 (105 + 4 * a + b).toNat)))) sh σ) := by
  refine k_C_of (ls0 := [(0, .ref 123), (1, .int (iI (a))), (2, .int (iI (b)))]) rfl pnX8 (fun v hv => k_cat1 rfl hv) (Nat.le_of_ble_eq_true rfl) rfl ?_
  obtain ⟨⟨t0, t0b⟩, ⟨t1, t1b⟩, ⟨t2, t2b⟩, ⟨t3, t3b⟩, -⟩ := id hM
  refine k_aload_n dX8_subjectOf_0 0 rfl rfl (by decide) ?_
  refine k_get (kf := 0) (v := .ref 124) dX8_subjectOf_1 kcX8 w_1747 (by decide) (by decide) (s_123 hsh) rfl rfl ?_
  refine k_bipush (v := 105) dX8_subjectOf_4 (by decide) ?_
  refine k_iconst (v := 4) dX8_subjectOf_6 rfl ?_
  refine k_iload_n dX8_subjectOf_7 1 rfl rfl ?_
  refine k_imul dX8_subjectOf_8 ?_
  refine k_iadd dX8_subjectOf_9 ?_
  refine k_iload_n dX8_subjectOf_10 2 rfl rfl ?_
  refine k_iadd dX8_subjectOf_11 ?_
  refine k_iald dX8_subjectOf_12 (by decide) (s_124 hsh) (by omega) (by omega) (by decide) ?_
  have q1 := k_Mo_tab hM (x := (105 + (4 * a)) + b) (by omega) (by omega)
  exact k_reti dX8_subjectOf_13 rfl rfl (by first | rfl | omega)
set_option maxHeartbeats 4000000 in
theorem c8_wish (hsh : k_Main sh) (hM : k_Mo (σ 124)) {a b : Int} (ha : 0 ≤ a ∧ a < 12) (hb : 0 ≤ b ∧ b < 3) : k_C E mX8_wish 1 [.ref 123, .int (iI (a)), .int (iI (b))] sh σ 0 0 (k_ret (some (.int (iI (σ 124 (57 + 3 * a + b).toNat)))) sh σ) := by
  refine k_C_of (ls0 := [(0, .ref 123), (1, .int (iI (a))), (2, .int (iI (b)))]) rfl pnX8 (fun v hv => k_cat1 rfl hv) (Nat.le_of_ble_eq_true rfl) rfl ?_
  obtain ⟨⟨t0, t0b⟩, ⟨t1, t1b⟩, ⟨t2, t2b⟩, ⟨t3, t3b⟩, -⟩ := id hM
  refine k_aload_n dX8_wish_0 0 rfl rfl (by decide) ?_
  refine k_get (kf := 0) (v := .ref 124) dX8_wish_1 kcX8 w_1747 (by decide) (by decide) (s_123 hsh) rfl rfl ?_
  refine k_bipush (v := 57) dX8_wish_4 (by decide) ?_
  refine k_iconst (v := 3) dX8_wish_6 rfl ?_
  refine k_iload_n dX8_wish_7 1 rfl rfl ?_
  refine k_imul dX8_wish_8 ?_
  refine k_iadd dX8_wish_9 ?_
  refine k_iload_n dX8_wish_10 2 rfl rfl ?_
  refine k_iadd dX8_wish_11 ?_
  refine k_iald dX8_wish_12 (by decide) (s_124 hsh) (by omega) (by omega) (by decide) ?_
  have q1 := k_Mo_wish hM (x := (57 + (3 * a)) + b) (by omega) (by omega)
  exact k_reti dX8_wish_13 rfl rfl (by first | rfl | omega)
abbrev R_blockOfSubject (v : Int) : Prop := -1 ≤ v ∧ v ≤ 3
def r_blockOfSubject_2 (r : Nat → Int) (p : Int) (s : Int) (x2 : Unit) : Int := -1
def b_blockOfSubject_2 (r : Nat → Int) (p : Int) (s : Int) (i2 : Nat) (x2 : Unit) : (Int) ⊕ (Unit) := if (r (105 + 4 * p + (i2 : Int)).toNat) = s then .inl ((i2 : Int)) else .inr (())
def m_blockOfSubject (r : Nat → Int) (p : Int) (s : Int) : Int := k_els (r_blockOfSubject_2 r p s) (k_for (b_blockOfSubject_2 r p s) (4) 0 ())
set_option maxRecDepth 100000 in
set_option maxHeartbeats 4000000 in
theorem c8_blockOfSubject (hsh : k_Main sh) (hM : k_Mo (σ 124)) {p s : Int} (h_p : 0 ≤ p ∧ p < 12) (h_s : -2147483648 ≤ s ∧ s < 2147483648) : k_C E mX8_blockOfSubject 2 [.ref 123, .int (iI (p)), .int (iI (s))] sh σ 0 0 ((k_pV sh σ (R_blockOfSubject)) (m_blockOfSubject (σ 124) p s)) := by
  refine k_C_of (ls0 := [(0, .ref 123), (1, .int (iI (p))), (2, .int (iI (s)))]) rfl pnX8 (fun v hv => k_cat1 rfl hv) (Nat.le_of_ble_eq_true rfl) rfl ?_
  obtain ⟨⟨t0, t0b⟩, ⟨t1, t1b⟩, ⟨t2, t2b⟩, ⟨t3, t3b⟩, -⟩ := id hM
  unfold m_blockOfSubject
  refine k_iconst (v := 0) dX8_blockOfSubject_0 rfl ?_
  refine k_istore_n (ls' := [(0, .ref 123), (1, .int (iI (p))), (2, .int (iI (s))), (3, .int (iI (0)))]) dX8_blockOfSubject_1 rfl (by decide) rfl rfl ?_
  refine k_loopR (α := Unit) (P := fun (i2 : Nat) (x2 : Unit) Q => k_V E mX8_blockOfSubject _ 2 [(0, .ref 123), (1, .int (iI (p))), (2, .int (iI (s))), (3, .int (iI ((i2 : Int))))] [] sh σ _ _ Q) (J := fun (i2 : Nat) (x2 : Unit) => True) (4) (b_blockOfSubject_2 (σ 124) p s) () (F := fun t => (k_pV sh σ (R_blockOfSubject)) (k_els (r_blockOfSubject_2 (σ 124) p s) t)) (show True from True.intro) ?_ ?_
  · intro x2 hJ2
    show k_V E mX8_blockOfSubject _ 2 [(0, .ref 123), (1, .int (iI (p))), (2, .int (iI (s))), (3, .int (iI (((4 : Nat) : Int))))] [] sh σ _ _ ((k_pV sh σ (R_blockOfSubject)) ((r_blockOfSubject_2 (σ 124) p s) x2))
    unfold r_blockOfSubject_2
    refine k_iload_n dX8_blockOfSubject_2 3 rfl rfl ?_
    refine k_iconst (v := 4) dX8_blockOfSubject_3 rfl ?_
    refine k_icmp_ge (tgt := 25) dX8_blockOfSubject_4 rfl ⟨by omega, by omega⟩ ⟨by decide, by decide⟩ (fun h2 => ?_) (fun h2 => absurd h2 (by omega))
    refine k_iconst (v := (-1)) dX8_blockOfSubject_25 rfl ?_
    exact k_retiP dX8_blockOfSubject_26 rfl rfl rfl (show -1 ≤ (-1 : Int) ∧ (-1 : Int) ≤ 3 from by omega)
  · intro n2 i2 x2 hi2 hJ2 ih2
    show k_V E mX8_blockOfSubject _ 2 [(0, .ref 123), (1, .int (iI (p))), (2, .int (iI (s))), (3, .int (iI ((i2 : Int))))] [] sh σ _ _ ((fun t => (k_pV sh σ (R_blockOfSubject)) (k_els (r_blockOfSubject_2 (σ 124) p s) (k_cn2 (k_for (b_blockOfSubject_2 (σ 124) p s) n2 (i2 + 1)) t))) ((b_blockOfSubject_2 (σ 124) p s) i2 x2))
    unfold b_blockOfSubject_2
    refine k_iload_n dX8_blockOfSubject_2 3 rfl rfl ?_
    refine k_iconst (v := 4) dX8_blockOfSubject_3 rfl ?_
    refine k_icmp_ge (tgt := 25) dX8_blockOfSubject_4 rfl ⟨by omega, by omega⟩ ⟨by decide, by decide⟩ (fun h3 => absurd h3 (by omega)) (fun h3 => ?_)
    refine k_aload_n dX8_blockOfSubject_7 0 rfl rfl (by decide) ?_
    refine k_iload_n dX8_blockOfSubject_8 1 rfl rfl ?_
    refine k_iload_n dX8_blockOfSubject_9 3 rfl rfl ?_
    refine k_callVr (st := []) (as := [.int (iI (p)), .int (iI ((i2 : Int)))]) dX8_blockOfSubject_10 oX8_subjectOf w_1908 w_1910 w_40 rfl (by omega) rfl (Nat.le_of_ble_eq_true rfl) (by decide) (s_123 hsh) rfl (c8_subjectOf (σ := σ) hsh hM (by omega) (by omega)) ?_
    have q4 := k_Mo_tab hM (x := 105 + 4 * p + (i2 : Int)) (by omega) (by omega)
    refine k_iload_n dX8_blockOfSubject_13 2 rfl rfl ?_
    refine k_icmp_ne (tgt := 19) dX8_blockOfSubject_14 rfl ⟨by omega, by omega⟩ ⟨by omega, by omega⟩ (fun h6 => ?_) (fun h6 => ?_)
    · refine k_iff (F := (fun t => (k_pV sh σ (R_blockOfSubject)) (k_els (r_blockOfSubject_2 (σ 124) p s) (k_cn2 (k_for (b_blockOfSubject_2 (σ 124) p s) n2 (i2 + 1)) t)))) h6 ?_
      refine k_iinc (ls' := [(0, .ref 123), (1, .int (iI (p))), (2, .int (iI (s))), (3, .int (iI ((i2 : Int) + 1)))]) dX8_blockOfSubject_19 3 rfl (by decide) rfl rfl ?_
      refine k_goto (tgt := 2) dX8_blockOfSubject_22 rfl ?_
      exact ih2 (()) (show True from True.intro)
    · refine k_ift (F := (fun t => (k_pV sh σ (R_blockOfSubject)) (k_els (r_blockOfSubject_2 (σ 124) p s) (k_cn2 (k_for (b_blockOfSubject_2 (σ 124) p s) n2 (i2 + 1)) t)))) h6 ?_
      refine k_iload_n dX8_blockOfSubject_17 3 rfl rfl ?_
      exact k_retiP dX8_blockOfSubject_18 rfl rfl rfl (show -1 ≤ (i2 : Int) ∧ (i2 : Int) ≤ 3 from by omega)
abbrev R_inClass (v : Int) : Prop := 0 ≤ v ∧ v ≤ 12
def r_inClass_5 (r : Nat → Int) (s : Int) (b : Int) (x5 : Int) : Int := x5
def b_inClass_5 (r : Nat → Int) (s : Int) (b : Int) (i5 : Nat) (x5 : Int) : Int := if (r (105 + 4 * (i5 : Int) + b).toNat) = s then x5 + 1 else x5 + 0
def m_inClass (r : Nat → Int) (s : Int) (b : Int) : Int := (r_inClass_5 r s b) (k_it (b_inClass_5 r s b) ((r 2).toNat) 0 (0))
set_option maxRecDepth 100000 in
set_option maxHeartbeats 4000000 in
theorem c8_inClass (hsh : k_Main sh) (hM : k_Mo (σ 124)) {s b : Int} (h_s : -2147483648 ≤ s ∧ s < 2147483648) (h_b : 0 ≤ b ∧ b < 4) : k_C E mX8_inClass 2 [.ref 123, .int (iI (s)), .int (iI (b))] sh σ 0 0 ((k_pV sh σ (R_inClass)) (m_inClass (σ 124) s b)) := by
  refine k_C_of (ls0 := [(0, .ref 123), (1, .int (iI (s))), (2, .int (iI (b)))]) rfl pnX8 (fun v hv => k_cat1 rfl hv) (Nat.le_of_ble_eq_true rfl) rfl ?_
  obtain ⟨⟨t0, t0b⟩, ⟨t1, t1b⟩, ⟨t2, t2b⟩, ⟨t3, t3b⟩, -⟩ := id hM
  unfold m_inClass
  refine k_iconst (v := 0) dX8_inClass_0 rfl ?_
  refine k_istore_n (ls' := [(0, .ref 123), (1, .int (iI (s))), (2, .int (iI (b))), (3, .int (iI (0)))]) dX8_inClass_1 rfl (by decide) rfl rfl ?_
  refine k_iconst (v := 0) dX8_inClass_2 rfl ?_
  refine k_istore (ls' := [(0, .ref 123), (1, .int (iI (s))), (2, .int (iI (b))), (3, .int (iI (0))), (4, .int (iI (0)))]) dX8_inClass_3 (by decide) rfl rfl ?_
  refine k_loop (α := Int) (P := fun (i5 : Nat) (x5 : Int) Q => k_V E mX8_inClass _ 5 [(0, .ref 123), (1, .int (iI (s))), (2, .int (iI (b))), (3, .int (iI (x5))), (4, .int (iI ((i5 : Int))))] [] sh σ _ _ Q) (J := fun (i5 : Nat) (x5 : Int) => 0 ≤ x5 ∧ x5 ≤ (i5 : Int)) (((σ 124) 2).toNat) (b_inClass_5 (σ 124) s b) (0) (F := fun t => (k_pV sh σ (R_inClass)) ((r_inClass_5 (σ 124) s b) t)) (show 0 ≤ (0 : Int) ∧ (0 : Int) ≤ ((0 : Nat) : Int) from by omega) ?_ ?_
  · intro x5 hJ5
    have hJ5 : 0 ≤ x5 ∧ x5 ≤ ((((σ 124) 2).toNat : Nat) : Int) := hJ5
    have hU5 := hJ5
    show k_V E mX8_inClass _ 5 [(0, .ref 123), (1, .int (iI (s))), (2, .int (iI (b))), (3, .int (iI (x5))), (4, .int (iI (((((σ 124) 2).toNat : Nat) : Int))))] [] sh σ _ _ ((k_pV sh σ (R_inClass)) ((r_inClass_5 (σ 124) s b) x5))
    unfold r_inClass_5
    refine k_iload dX8_inClass_5 4 rfl ?_
    refine k_aload_n dX8_inClass_7 0 rfl rfl (by decide) ?_
    refine k_get (kf := 0) (v := .ref 124) dX8_inClass_8 kcX8 w_1747 (by decide) (by decide) (s_123 hsh) rfl rfl ?_
    refine k_iconst (v := 2) dX8_inClass_11 rfl ?_
    refine k_iald dX8_inClass_12 (by decide) (s_124 hsh) (by omega) (by omega) (by decide) ?_
    refine k_eqst (st' := [.int (iI ((σ 124) 2)), .int (iI (((((σ 124) 2).toNat : Nat) : Int)))]) rfl ?_
    refine k_icmp_ge (tgt := 41) dX8_inClass_13 rfl ⟨by omega, by omega⟩ ⟨by omega, by omega⟩ (fun h2 => ?_) (fun h2 => absurd h2 (by omega))
    refine k_iload_n dX8_inClass_41 3 rfl rfl ?_
    exact k_retiP dX8_inClass_42 rfl rfl rfl (show 0 ≤ x5 ∧ x5 ≤ 12 from by omega)
  · intro n5 i5 x5 hi5 hJ5 ih5
    have hJ5 : 0 ≤ x5 ∧ x5 ≤ (i5 : Int) := hJ5
    have hU5 := hJ5
    show k_V E mX8_inClass _ 5 [(0, .ref 123), (1, .int (iI (s))), (2, .int (iI (b))), (3, .int (iI (x5))), (4, .int (iI ((i5 : Int))))] [] sh σ _ _ ((fun t => (k_pV sh σ (R_inClass)) ((r_inClass_5 (σ 124) s b) (k_it (b_inClass_5 (σ 124) s b) n5 (i5 + 1) t))) ((b_inClass_5 (σ 124) s b) i5 x5))
    unfold b_inClass_5
    refine k_iload dX8_inClass_5 4 rfl ?_
    refine k_aload_n dX8_inClass_7 0 rfl rfl (by decide) ?_
    refine k_get (kf := 0) (v := .ref 124) dX8_inClass_8 kcX8 w_1747 (by decide) (by decide) (s_123 hsh) rfl rfl ?_
    refine k_iconst (v := 2) dX8_inClass_11 rfl ?_
    refine k_iald dX8_inClass_12 (by decide) (s_124 hsh) (by omega) (by omega) (by decide) ?_
    refine k_eqst (st' := [.int (iI ((σ 124) 2)), .int (iI ((i5 : Int)))]) rfl ?_
    refine k_icmp_ge (tgt := 41) dX8_inClass_13 rfl ⟨by omega, by omega⟩ ⟨by omega, by omega⟩ (fun h3 => absurd h3 (by omega)) (fun h3 => ?_)
    refine k_iload_n dX8_inClass_16 3 rfl rfl ?_
    refine k_aload_n dX8_inClass_17 0 rfl rfl (by decide) ?_
    refine k_iload dX8_inClass_18 4 rfl ?_
    refine k_iload_n dX8_inClass_20 2 rfl rfl ?_
    refine k_callVr (st := [.int (iI (x5))]) (as := [.int (iI ((i5 : Int))), .int (iI (b))]) dX8_inClass_21 oX8_subjectOf w_1908 w_1910 w_40 rfl (by omega) rfl (Nat.le_of_ble_eq_true rfl) (by decide) (s_123 hsh) rfl (c8_subjectOf (σ := σ) hsh hM (by omega) (by omega)) ?_
    have q4 := k_Mo_tab hM (x := 105 + 4 * (i5 : Int) + b) (by omega) (by omega)
    refine k_iload_n dX8_inClass_24 1 rfl rfl ?_
    refine k_icmp_ne (tgt := 32) dX8_inClass_25 rfl ⟨by omega, by omega⟩ ⟨by omega, by omega⟩ (fun h6 => ?_) (fun h6 => ?_)
    · refine k_iff (F := (fun t => (k_pV sh σ (R_inClass)) ((r_inClass_5 (σ 124) s b) (k_it (b_inClass_5 (σ 124) s b) n5 (i5 + 1) t)))) h6 ?_
      refine k_iconst (v := 0) dX8_inClass_32 rfl ?_
      refine k_iadd dX8_inClass_33 ?_
      refine k_istore_n (ls' := [(0, .ref 123), (1, .int (iI (s))), (2, .int (iI (b))), (3, .int (iI (x5 + 0))), (4, .int (iI ((i5 : Int))))]) dX8_inClass_34 rfl (by decide) rfl rfl ?_
      refine k_iinc (ls' := [(0, .ref 123), (1, .int (iI (s))), (2, .int (iI (b))), (3, .int (iI (x5 + 0))), (4, .int (iI ((i5 : Int) + 1)))]) dX8_inClass_35 4 rfl (by decide) rfl rfl ?_
      refine k_goto (tgt := 5) dX8_inClass_38 rfl ?_
      exact ih5 (x5 + 0) (show 0 ≤ x5 + 0 ∧ x5 + 0 ≤ ((i5 + 1 : Nat) : Int) from by omega)
    · refine k_ift (F := (fun t => (k_pV sh σ (R_inClass)) ((r_inClass_5 (σ 124) s b) (k_it (b_inClass_5 (σ 124) s b) n5 (i5 + 1) t)))) h6 ?_
      refine k_iconst (v := 1) dX8_inClass_28 rfl ?_
      refine k_goto (tgt := 33) dX8_inClass_29 rfl ?_
      refine k_iadd dX8_inClass_33 ?_
      refine k_istore_n (ls' := [(0, .ref 123), (1, .int (iI (s))), (2, .int (iI (b))), (3, .int (iI (x5 + 1))), (4, .int (iI ((i5 : Int))))]) dX8_inClass_34 rfl (by decide) rfl rfl ?_
      refine k_iinc (ls' := [(0, .ref 123), (1, .int (iI (s))), (2, .int (iI (b))), (3, .int (iI (x5 + 1))), (4, .int (iI ((i5 : Int) + 1)))]) dX8_inClass_35 4 rfl (by decide) rfl rfl ?_
      refine k_goto (tgt := 5) dX8_inClass_38 rfl ?_
      exact ih5 (x5 + 1) (show 0 ≤ x5 + 1 ∧ x5 + 1 ≤ ((i5 + 1 : Nat) : Int) from by omega)
abbrev R_openOf (v : Int) : Prop := 0 ≤ v ∧ v ≤ 4
def r_openOf_4 (r : Nat → Int) (s : Int) (x4 : Int) : Int := x4
def b_openOf_4 (r : Nat → Int) (s : Int) (i4 : Nat) (x4 : Int) : Int := x4 + (r ((17 + (4 * s)) + ((i4 : Int))).toNat)
def m_openOf (r : Nat → Int) (s : Int) : Int := (r_openOf_4 r s) (k_it (b_openOf_4 r s) (4) 0 (0))
set_option maxRecDepth 100000 in
set_option maxHeartbeats 4000000 in
theorem c8_openOf (hsh : k_Main sh) (hM : k_Mo (σ 124)) {s : Int} (h_s : 0 ≤ s ∧ s < 7) : k_C E mX8_openOf 1 [.ref 123, .int (iI (s))] sh σ 0 0 ((k_pV sh σ (R_openOf)) (m_openOf (σ 124) s)) := by
  refine k_C_of (ls0 := [(0, .ref 123), (1, .int (iI (s)))]) rfl pnX8 (fun v hv => k_cat1 rfl hv) (Nat.le_of_ble_eq_true rfl) rfl ?_
  obtain ⟨⟨t0, t0b⟩, ⟨t1, t1b⟩, ⟨t2, t2b⟩, ⟨t3, t3b⟩, -⟩ := id hM
  unfold m_openOf
  refine k_iconst (v := 0) dX8_openOf_0 rfl ?_
  refine k_istore_n (ls' := [(0, .ref 123), (1, .int (iI (s))), (2, .int (iI (0)))]) dX8_openOf_1 rfl (by decide) rfl rfl ?_
  refine k_iconst (v := 0) dX8_openOf_2 rfl ?_
  refine k_istore_n (ls' := [(0, .ref 123), (1, .int (iI (s))), (2, .int (iI (0))), (3, .int (iI (0)))]) dX8_openOf_3 rfl (by decide) rfl rfl ?_
  refine k_loop (α := Int) (P := fun (i4 : Nat) (x4 : Int) Q => k_V E mX8_openOf _ 4 [(0, .ref 123), (1, .int (iI (s))), (2, .int (iI (x4))), (3, .int (iI ((i4 : Int))))] [] sh σ _ _ Q) (J := fun (i4 : Nat) (x4 : Int) => 0 ≤ x4 ∧ x4 ≤ (i4 : Int)) (4) (b_openOf_4 (σ 124) s) (0) (F := fun t => (k_pV sh σ (R_openOf)) ((r_openOf_4 (σ 124) s) t)) (show 0 ≤ (0 : Int) ∧ (0 : Int) ≤ ((0 : Nat) : Int) from by omega) ?_ ?_
  · intro x4 hJ4
    have hJ4 : 0 ≤ x4 ∧ x4 ≤ ((4 : Nat) : Int) := hJ4
    have hU4 := hJ4
    show k_V E mX8_openOf _ 4 [(0, .ref 123), (1, .int (iI (s))), (2, .int (iI (x4))), (3, .int (iI (((4 : Nat) : Int))))] [] sh σ _ _ ((k_pV sh σ (R_openOf)) ((r_openOf_4 (σ 124) s) x4))
    unfold r_openOf_4
    refine k_iload_n dX8_openOf_4 3 rfl rfl ?_
    refine k_iconst (v := 4) dX8_openOf_5 rfl ?_
    refine k_icmp_ge (tgt := 31) dX8_openOf_6 rfl ⟨by omega, by omega⟩ ⟨by decide, by decide⟩ (fun h2 => ?_) (fun h2 => absurd h2 (by omega))
    refine k_iload_n dX8_openOf_31 2 rfl rfl ?_
    exact k_retiP dX8_openOf_32 rfl rfl rfl (show 0 ≤ x4 ∧ x4 ≤ 4 from by omega)
  · intro n4 i4 x4 hi4 hJ4 ih4
    have hJ4 : 0 ≤ x4 ∧ x4 ≤ (i4 : Int) := hJ4
    have hU4 := hJ4
    show k_V E mX8_openOf _ 4 [(0, .ref 123), (1, .int (iI (s))), (2, .int (iI (x4))), (3, .int (iI ((i4 : Int))))] [] sh σ _ _ ((fun t => (k_pV sh σ (R_openOf)) ((r_openOf_4 (σ 124) s) (k_it (b_openOf_4 (σ 124) s) n4 (i4 + 1) t))) ((b_openOf_4 (σ 124) s) i4 x4))
    unfold b_openOf_4
    refine k_iload_n dX8_openOf_4 3 rfl rfl ?_
    refine k_iconst (v := 4) dX8_openOf_5 rfl ?_
    refine k_icmp_ge (tgt := 31) dX8_openOf_6 rfl ⟨by omega, by omega⟩ ⟨by decide, by decide⟩ (fun h3 => absurd h3 (by omega)) (fun h3 => ?_)
    refine k_iload_n dX8_openOf_9 2 rfl rfl ?_
    refine k_aload_n dX8_openOf_10 0 rfl rfl (by decide) ?_
    refine k_get (kf := 0) (v := .ref 124) dX8_openOf_11 kcX8 w_1747 (by decide) (by decide) (s_123 hsh) rfl rfl ?_
    refine k_bipush (v := 17) dX8_openOf_14 (by decide) ?_
    refine k_iconst (v := 4) dX8_openOf_16 rfl ?_
    refine k_iload_n dX8_openOf_17 1 rfl rfl ?_
    refine k_imul dX8_openOf_18 ?_
    refine k_iadd dX8_openOf_19 ?_
    refine k_iload_n dX8_openOf_20 3 rfl rfl ?_
    refine k_iadd dX8_openOf_21 ?_
    refine k_iald dX8_openOf_22 (by decide) (s_124 hsh) (by omega) (by omega) (by decide) ?_
    have q4 := k_Mo_opn hM (x := (17 + (4 * s)) + ((i4 : Int))) (by omega) (by omega)
    refine k_iadd dX8_openOf_23 ?_
    refine k_istore_n (ls' := [(0, .ref 123), (1, .int (iI (s))), (2, .int (iI (x4 + ((σ 124) ((17 + (4 * s)) + ((i4 : Int))).toNat)))), (3, .int (iI ((i4 : Int))))]) dX8_openOf_24 rfl (by decide) rfl rfl ?_
    refine k_iinc (ls' := [(0, .ref 123), (1, .int (iI (s))), (2, .int (iI (x4 + ((σ 124) ((17 + (4 * s)) + ((i4 : Int))).toNat)))), (3, .int (iI ((i4 : Int) + 1)))]) dX8_openOf_25 3 rfl (by decide) rfl rfl ?_
    refine k_goto (tgt := 4) dX8_openOf_28 rfl ?_
    exact ih4 (x4 + ((σ 124) ((17 + (4 * s)) + ((i4 : Int))).toNat)) (show 0 ≤ x4 + ((σ 124) ((17 + (4 * s)) + ((i4 : Int))).toNat) ∧ x4 + ((σ 124) ((17 + (4 * s)) + ((i4 : Int))).toNat) ≤ ((i4 + 1 : Nat) : Int) from by omega)
abbrev R_classesOf (v : Int) : Prop := 0 ≤ v ∧ v ≤ 4
def r_classesOf_4 (r : Nat → Int) (p : Int) (x4 : Int) : Int := x4
def b_classesOf_4 (r : Nat → Int) (p : Int) (i4 : Nat) (x4 : Int) : Int := if (r (105 + 4 * p + (i4 : Int)).toNat) = (-1) then x4 + 0 else x4 + 1
def m_classesOf (r : Nat → Int) (p : Int) : Int := (r_classesOf_4 r p) (k_it (b_classesOf_4 r p) (4) 0 (0))
set_option maxRecDepth 100000 in
set_option maxHeartbeats 4000000 in
theorem c8_classesOf (hsh : k_Main sh) (hM : k_Mo (σ 124)) {p : Int} (h_p : 0 ≤ p ∧ p < 12) : k_C E mX8_classesOf 2 [.ref 123, .int (iI (p))] sh σ 0 0 ((k_pV sh σ (R_classesOf)) (m_classesOf (σ 124) p)) := by
  refine k_C_of (ls0 := [(0, .ref 123), (1, .int (iI (p)))]) rfl pnX8 (fun v hv => k_cat1 rfl hv) (Nat.le_of_ble_eq_true rfl) rfl ?_
  obtain ⟨⟨t0, t0b⟩, ⟨t1, t1b⟩, ⟨t2, t2b⟩, ⟨t3, t3b⟩, -⟩ := id hM
  unfold m_classesOf
  refine k_iconst (v := 0) dX8_classesOf_0 rfl ?_
  refine k_istore_n (ls' := [(0, .ref 123), (1, .int (iI (p))), (2, .int (iI (0)))]) dX8_classesOf_1 rfl (by decide) rfl rfl ?_
  refine k_iconst (v := 0) dX8_classesOf_2 rfl ?_
  refine k_istore_n (ls' := [(0, .ref 123), (1, .int (iI (p))), (2, .int (iI (0))), (3, .int (iI (0)))]) dX8_classesOf_3 rfl (by decide) rfl rfl ?_
  refine k_loop (α := Int) (P := fun (i4 : Nat) (x4 : Int) Q => k_V E mX8_classesOf _ 4 [(0, .ref 123), (1, .int (iI (p))), (2, .int (iI (x4))), (3, .int (iI ((i4 : Int))))] [] sh σ _ _ Q) (J := fun (i4 : Nat) (x4 : Int) => 0 ≤ x4 ∧ x4 ≤ (i4 : Int)) (4) (b_classesOf_4 (σ 124) p) (0) (F := fun t => (k_pV sh σ (R_classesOf)) ((r_classesOf_4 (σ 124) p) t)) (show 0 ≤ (0 : Int) ∧ (0 : Int) ≤ ((0 : Nat) : Int) from by omega) ?_ ?_
  · intro x4 hJ4
    have hJ4 : 0 ≤ x4 ∧ x4 ≤ ((4 : Nat) : Int) := hJ4
    have hU4 := hJ4
    show k_V E mX8_classesOf _ 4 [(0, .ref 123), (1, .int (iI (p))), (2, .int (iI (x4))), (3, .int (iI (((4 : Nat) : Int))))] [] sh σ _ _ ((k_pV sh σ (R_classesOf)) ((r_classesOf_4 (σ 124) p) x4))
    unfold r_classesOf_4
    refine k_iload_n dX8_classesOf_4 3 rfl rfl ?_
    refine k_iconst (v := 4) dX8_classesOf_5 rfl ?_
    refine k_icmp_ge (tgt := 33) dX8_classesOf_6 rfl ⟨by omega, by omega⟩ ⟨by decide, by decide⟩ (fun h2 => ?_) (fun h2 => absurd h2 (by omega))
    refine k_iload_n dX8_classesOf_33 2 rfl rfl ?_
    exact k_retiP dX8_classesOf_34 rfl rfl rfl (show 0 ≤ x4 ∧ x4 ≤ 4 from by omega)
  · intro n4 i4 x4 hi4 hJ4 ih4
    have hJ4 : 0 ≤ x4 ∧ x4 ≤ (i4 : Int) := hJ4
    have hU4 := hJ4
    show k_V E mX8_classesOf _ 4 [(0, .ref 123), (1, .int (iI (p))), (2, .int (iI (x4))), (3, .int (iI ((i4 : Int))))] [] sh σ _ _ ((fun t => (k_pV sh σ (R_classesOf)) ((r_classesOf_4 (σ 124) p) (k_it (b_classesOf_4 (σ 124) p) n4 (i4 + 1) t))) ((b_classesOf_4 (σ 124) p) i4 x4))
    unfold b_classesOf_4
    refine k_iload_n dX8_classesOf_4 3 rfl rfl ?_
    refine k_iconst (v := 4) dX8_classesOf_5 rfl ?_
    refine k_icmp_ge (tgt := 33) dX8_classesOf_6 rfl ⟨by omega, by omega⟩ ⟨by decide, by decide⟩ (fun h3 => absurd h3 (by omega)) (fun h3 => ?_)
    refine k_iload_n dX8_classesOf_9 2 rfl rfl ?_
    refine k_aload_n dX8_classesOf_10 0 rfl rfl (by decide) ?_
    refine k_iload_n dX8_classesOf_11 1 rfl rfl ?_
    refine k_iload_n dX8_classesOf_12 3 rfl rfl ?_
    refine k_callVr (st := [.int (iI (x4))]) (as := [.int (iI (p)), .int (iI ((i4 : Int)))]) dX8_classesOf_13 oX8_subjectOf w_1908 w_1910 w_40 rfl (by omega) rfl (Nat.le_of_ble_eq_true rfl) (by decide) (s_123 hsh) rfl (c8_subjectOf (σ := σ) hsh hM (by omega) (by omega)) ?_
    have q4 := k_Mo_tab hM (x := 105 + 4 * p + (i4 : Int)) (by omega) (by omega)
    refine k_iconst (v := (-1)) dX8_classesOf_16 rfl ?_
    refine k_icmp_eq (tgt := 24) dX8_classesOf_17 rfl ⟨by omega, by omega⟩ ⟨by decide, by decide⟩ (fun h6 => ?_) (fun h6 => ?_)
    · refine k_ift (F := (fun t => (k_pV sh σ (R_classesOf)) ((r_classesOf_4 (σ 124) p) (k_it (b_classesOf_4 (σ 124) p) n4 (i4 + 1) t)))) h6 ?_
      refine k_iconst (v := 0) dX8_classesOf_24 rfl ?_
      refine k_iadd dX8_classesOf_25 ?_
      refine k_istore_n (ls' := [(0, .ref 123), (1, .int (iI (p))), (2, .int (iI (x4 + 0))), (3, .int (iI ((i4 : Int))))]) dX8_classesOf_26 rfl (by decide) rfl rfl ?_
      refine k_iinc (ls' := [(0, .ref 123), (1, .int (iI (p))), (2, .int (iI (x4 + 0))), (3, .int (iI ((i4 : Int) + 1)))]) dX8_classesOf_27 3 rfl (by decide) rfl rfl ?_
      refine k_goto (tgt := 4) dX8_classesOf_30 rfl ?_
      exact ih4 (x4 + 0) (show 0 ≤ x4 + 0 ∧ x4 + 0 ≤ ((i4 + 1 : Nat) : Int) from by omega)
    · refine k_iff (F := (fun t => (k_pV sh σ (R_classesOf)) ((r_classesOf_4 (σ 124) p) (k_it (b_classesOf_4 (σ 124) p) n4 (i4 + 1) t)))) h6 ?_
      refine k_iconst (v := 1) dX8_classesOf_20 rfl ?_
      refine k_goto (tgt := 25) dX8_classesOf_21 rfl ?_
      refine k_iadd dX8_classesOf_25 ?_
      refine k_istore_n (ls' := [(0, .ref 123), (1, .int (iI (p))), (2, .int (iI (x4 + 1))), (3, .int (iI ((i4 : Int))))]) dX8_classesOf_26 rfl (by decide) rfl rfl ?_
      refine k_iinc (ls' := [(0, .ref 123), (1, .int (iI (p))), (2, .int (iI (x4 + 1))), (3, .int (iI ((i4 : Int) + 1)))]) dX8_classesOf_27 3 rfl (by decide) rfl rfl ?_
      refine k_goto (tgt := 4) dX8_classesOf_30 rfl ?_
      exact ih4 (x4 + 1) (show 0 ≤ x4 + 1 ∧ x4 + 1 ≤ ((i4 + 1 : Nat) : Int) from by omega)
def r_isWish_5 (r : Nat → Int) (p : Int) (s : Int) (x5 : Int) : Bool := decide (x5 = 1)
def b_isWish_5 (r : Nat → Int) (p : Int) (s : Int) (i5 : Nat) (x5 : Int) : Int := if x5 = 0 then if (r (57 + 3 * p + (i5 : Int)).toNat) = s then 1 else 0 else 1
def m_isWish (r : Nat → Int) (p : Int) (s : Int) : Bool := (r_isWish_5 r p s) (k_it (b_isWish_5 r p s) ((r (45 + p).toNat).toNat) 0 (0))
set_option maxRecDepth 100000 in
set_option maxHeartbeats 4000000 in
theorem c8_isWish (hsh : k_Main sh) (hM : k_Mo (σ 124)) {p s : Int} (h_p : 0 ≤ p ∧ p < 12) (h_s : -2147483648 ≤ s ∧ s < 2147483648) : k_C E mX8_isWish 2 [.ref 123, .int (iI (p)), .int (iI (s))] sh σ 0 0 ((k_pB sh σ) (m_isWish (σ 124) p s)) := by
  refine k_C_of (ls0 := [(0, .ref 123), (1, .int (iI (p))), (2, .int (iI (s)))]) rfl pnX8 (fun v hv => k_cat1 rfl hv) (Nat.le_of_ble_eq_true rfl) rfl ?_
  obtain ⟨⟨t0, t0b⟩, ⟨t1, t1b⟩, ⟨t2, t2b⟩, ⟨t3, t3b⟩, -⟩ := id hM
  unfold m_isWish
  refine k_iconst (v := 0) dX8_isWish_0 rfl ?_
  refine k_istore_n (ls' := [(0, .ref 123), (1, .int (iI (p))), (2, .int (iI (s))), (3, .int (iI (0)))]) dX8_isWish_1 rfl (by decide) rfl rfl ?_
  refine k_iconst (v := 0) dX8_isWish_2 rfl ?_
  refine k_istore (ls' := [(0, .ref 123), (1, .int (iI (p))), (2, .int (iI (s))), (3, .int (iI (0))), (4, .int (iI (0)))]) dX8_isWish_3 (by decide) rfl rfl ?_
  refine k_loop (α := Int) (P := fun (i5 : Nat) (x5 : Int) Q => k_V E mX8_isWish _ 5 [(0, .ref 123), (1, .int (iI (p))), (2, .int (iI (s))), (3, .int (iI (x5))), (4, .int (iI ((i5 : Int))))] [] sh σ _ _ Q) (J := fun (i5 : Nat) (x5 : Int) => 0 ≤ x5 ∧ x5 ≤ 1) (((σ 124) (45 + p).toNat).toNat) (b_isWish_5 (σ 124) p s) (0) (F := fun t => (k_pB sh σ) ((r_isWish_5 (σ 124) p s) t)) (show 0 ≤ (0 : Int) ∧ (0 : Int) ≤ 1 from by omega) ?_ ?_
  · intro x5 hJ5
    have hJ5 : 0 ≤ x5 ∧ x5 ≤ 1 := hJ5
    have hU5 := hJ5
    show k_V E mX8_isWish _ 5 [(0, .ref 123), (1, .int (iI (p))), (2, .int (iI (s))), (3, .int (iI (x5))), (4, .int (iI (((((σ 124) (45 + p).toNat).toNat : Nat) : Int))))] [] sh σ _ _ ((k_pB sh σ) ((r_isWish_5 (σ 124) p s) x5))
    unfold r_isWish_5
    refine k_iload dX8_isWish_5 4 rfl ?_
    refine k_aload_n dX8_isWish_7 0 rfl rfl (by decide) ?_
    refine k_get (kf := 0) (v := .ref 124) dX8_isWish_8 kcX8 w_1747 (by decide) (by decide) (s_123 hsh) rfl rfl ?_
    refine k_bipush (v := 45) dX8_isWish_11 (by decide) ?_
    refine k_iload_n dX8_isWish_13 1 rfl rfl ?_
    refine k_iadd dX8_isWish_14 ?_
    refine k_iald dX8_isWish_15 (by decide) (s_124 hsh) (by omega) (by omega) (by decide) ?_
    have q2 := k_Mo_many hM (x := 45 + p) (by omega) (by omega)
    refine k_icmp_ge (tgt := 46) dX8_isWish_16 rfl ⟨by omega, by omega⟩ ⟨by omega, by omega⟩ (fun h3 => ?_) (fun h3 => absurd h3 (by omega))
    refine k_iload_n dX8_isWish_46 3 rfl rfl ?_
    exact k_retzP dX8_isWish_47 rfl (by omega) rfl (k_lfV (by omega)) True.intro
  · intro n5 i5 x5 hi5 hJ5 ih5
    have hJ5 : 0 ≤ x5 ∧ x5 ≤ 1 := hJ5
    have hU5 := hJ5
    show k_V E mX8_isWish _ 5 [(0, .ref 123), (1, .int (iI (p))), (2, .int (iI (s))), (3, .int (iI (x5))), (4, .int (iI ((i5 : Int))))] [] sh σ _ _ ((fun t => (k_pB sh σ) ((r_isWish_5 (σ 124) p s) (k_it (b_isWish_5 (σ 124) p s) n5 (i5 + 1) t))) ((b_isWish_5 (σ 124) p s) i5 x5))
    unfold b_isWish_5
    refine k_iload dX8_isWish_5 4 rfl ?_
    refine k_aload_n dX8_isWish_7 0 rfl rfl (by decide) ?_
    refine k_get (kf := 0) (v := .ref 124) dX8_isWish_8 kcX8 w_1747 (by decide) (by decide) (s_123 hsh) rfl rfl ?_
    refine k_bipush (v := 45) dX8_isWish_11 (by decide) ?_
    refine k_iload_n dX8_isWish_13 1 rfl rfl ?_
    refine k_iadd dX8_isWish_14 ?_
    refine k_iald dX8_isWish_15 (by decide) (s_124 hsh) (by omega) (by omega) (by decide) ?_
    have q4 := k_Mo_many hM (x := 45 + p) (by omega) (by omega)
    refine k_icmp_ge (tgt := 46) dX8_isWish_16 rfl ⟨by omega, by omega⟩ ⟨by omega, by omega⟩ (fun h5 => absurd h5 (by omega)) (fun h5 => ?_)
    refine k_iload_n dX8_isWish_19 3 rfl rfl ?_
    refine k_if_ne (tgt := 34) dX8_isWish_20 rfl ⟨by omega, by omega⟩ (fun h6 => ?_) (fun h6 => ?_)
    · refine k_iff (F := (fun t => (k_pB sh σ) ((r_isWish_5 (σ 124) p s) (k_it (b_isWish_5 (σ 124) p s) n5 (i5 + 1) t)))) h6 ?_
      refine k_iconst (v := 1) dX8_isWish_34 rfl ?_
      refine k_goto (tgt := 39) dX8_isWish_35 rfl ?_
      refine k_istore_n (ls' := [(0, .ref 123), (1, .int (iI (p))), (2, .int (iI (s))), (3, .int (iI (1))), (4, .int (iI ((i5 : Int))))]) dX8_isWish_39 rfl (by decide) rfl rfl ?_
      refine k_iinc (ls' := [(0, .ref 123), (1, .int (iI (p))), (2, .int (iI (s))), (3, .int (iI (1))), (4, .int (iI ((i5 : Int) + 1)))]) dX8_isWish_40 4 rfl (by decide) rfl rfl ?_
      refine k_goto (tgt := 5) dX8_isWish_43 rfl ?_
      exact ih5 (1) (show 0 ≤ (1 : Int) ∧ (1 : Int) ≤ 1 from by omega)
    · refine k_ift (F := (fun t => (k_pB sh σ) ((r_isWish_5 (σ 124) p s) (k_it (b_isWish_5 (σ 124) p s) n5 (i5 + 1) t)))) h6 ?_
      refine k_aload_n dX8_isWish_23 0 rfl rfl (by decide) ?_
      refine k_iload_n dX8_isWish_24 1 rfl rfl ?_
      refine k_iload dX8_isWish_25 4 rfl ?_
      refine k_callVr (st := []) (as := [.int (iI (p)), .int (iI ((i5 : Int)))]) dX8_isWish_27 oX8_wish w_2000 w_2002 w_51 rfl (by omega) rfl (Nat.le_of_ble_eq_true rfl) (by decide) (s_123 hsh) rfl (c8_wish (σ := σ) hsh hM (by omega) (by omega)) ?_
      have q7 := k_Mo_wish hM (x := 57 + 3 * p + (i5 : Int)) (by omega) (by omega)
      refine k_iload_n dX8_isWish_30 2 rfl rfl ?_
      refine k_icmp_ne (tgt := 38) dX8_isWish_31 rfl ⟨by omega, by omega⟩ ⟨by omega, by omega⟩ (fun h9 => ?_) (fun h9 => ?_)
      · refine k_iff (F := (fun t => (k_pB sh σ) ((r_isWish_5 (σ 124) p s) (k_it (b_isWish_5 (σ 124) p s) n5 (i5 + 1) t)))) h9 ?_
        refine k_iconst (v := 0) dX8_isWish_38 rfl ?_
        refine k_istore_n (ls' := [(0, .ref 123), (1, .int (iI (p))), (2, .int (iI (s))), (3, .int (iI (0))), (4, .int (iI ((i5 : Int))))]) dX8_isWish_39 rfl (by decide) rfl rfl ?_
        refine k_iinc (ls' := [(0, .ref 123), (1, .int (iI (p))), (2, .int (iI (s))), (3, .int (iI (0))), (4, .int (iI ((i5 : Int) + 1)))]) dX8_isWish_40 4 rfl (by decide) rfl rfl ?_
        refine k_goto (tgt := 5) dX8_isWish_43 rfl ?_
        exact ih5 (0) (show 0 ≤ (0 : Int) ∧ (0 : Int) ≤ 1 from by omega)
      · refine k_ift (F := (fun t => (k_pB sh σ) ((r_isWish_5 (σ 124) p s) (k_it (b_isWish_5 (σ 124) p s) n5 (i5 + 1) t)))) h9 ?_
        refine k_iconst (v := 1) dX8_isWish_34 rfl ?_
        refine k_goto (tgt := 39) dX8_isWish_35 rfl ?_
        refine k_istore_n (ls' := [(0, .ref 123), (1, .int (iI (p))), (2, .int (iI (s))), (3, .int (iI (1))), (4, .int (iI ((i5 : Int))))]) dX8_isWish_39 rfl (by decide) rfl rfl ?_
        refine k_iinc (ls' := [(0, .ref 123), (1, .int (iI (p))), (2, .int (iI (s))), (3, .int (iI (1))), (4, .int (iI ((i5 : Int) + 1)))]) dX8_isWish_40 4 rfl (by decide) rfl rfl ?_
        refine k_goto (tgt := 5) dX8_isWish_43 rfl ?_
        exact ih5 (1) (show 0 ≤ (1 : Int) ∧ (1 : Int) ≤ 1 from by omega)
def m_hasRoom (r : Nat → Int) (s : Int) (b : Int) (wo : Int) : Bool := if wo = (-1) then if r (17 + 4 * s + b).toNat = 1 then if ((m_inClass r s b) - 0) < (r (10 + s).toNat) then true else false else false else if (r (105 + 4 * wo + b).toNat) = s then if r (17 + 4 * s + b).toNat = 1 then if ((m_inClass r s b) - 1) < (r (10 + s).toNat) then true else false else false else if r (17 + 4 * s + b).toNat = 1 then if ((m_inClass r s b) - 0) < (r (10 + s).toNat) then true else false else false
set_option maxRecDepth 100000 in
set_option maxHeartbeats 4000000 in
theorem c8_hasRoom (hsh : k_Main sh) (hM : k_Mo (σ 124)) {s b wo : Int} (h_s : 0 ≤ s ∧ s < 7) (h_b : 0 ≤ b ∧ b < 4) (h_wo : -1 ≤ wo ∧ wo < 12) : k_C E mX8_hasRoom 3 [.ref 123, .int (iI (s)), .int (iI (b)), .int (iI (wo))] sh σ 0 0 ((k_pB sh σ) (m_hasRoom (σ 124) s b wo)) := by
  refine k_C_of (ls0 := [(0, .ref 123), (1, .int (iI (s))), (2, .int (iI (b))), (3, .int (iI (wo)))]) rfl pnX8 (fun v hv => k_cat1 rfl hv) (Nat.le_of_ble_eq_true rfl) rfl ?_
  obtain ⟨⟨t0, t0b⟩, ⟨t1, t1b⟩, ⟨t2, t2b⟩, ⟨t3, t3b⟩, -⟩ := id hM
  unfold m_hasRoom
  refine k_aload_n dX8_hasRoom_0 0 rfl rfl (by decide) ?_
  refine k_iload_n dX8_hasRoom_1 1 rfl rfl ?_
  refine k_iload_n dX8_hasRoom_2 2 rfl rfl ?_
  refine k_callVrP (st := []) (as := [.int (iI (s)), .int (iI (b))]) dX8_hasRoom_3 oX8_inClass w_1904 w_1906 w_39 rfl (by omega) rfl (Nat.le_of_ble_eq_true rfl) (by decide) (s_123 hsh) rfl (c8_inClass hsh hM (by omega) (by omega)) (fun z1 => ?_)
  have z1 : 0 ≤ m_inClass (σ 124) s b ∧ m_inClass (σ 124) s b ≤ 12 := z1
  refine k_iload_n dX8_hasRoom_6 3 rfl rfl ?_
  refine k_iconst (v := (-1)) dX8_hasRoom_7 rfl ?_
  refine k_icmp_eq (tgt := 25) dX8_hasRoom_8 rfl ⟨by omega, by omega⟩ ⟨by decide, by decide⟩ (fun h2 => ?_) (fun h2 => ?_)
  · refine k_ift (F := (k_pB sh σ)) h2 ?_
    refine k_iconst (v := 0) dX8_hasRoom_25 rfl ?_
    refine k_isub dX8_hasRoom_26 ?_
    refine k_istore (ls' := [(0, .ref 123), (1, .int (iI (s))), (2, .int (iI (b))), (3, .int (iI (wo))), (4, .int (iI ((m_inClass (σ 124) s b) - 0)))]) dX8_hasRoom_27 (by decide) rfl rfl ?_
    refine k_aload_n dX8_hasRoom_29 0 rfl rfl (by decide) ?_
    refine k_iload_n dX8_hasRoom_30 1 rfl rfl ?_
    refine k_iload_n dX8_hasRoom_31 2 rfl rfl ?_
    refine k_callVr (st := []) (as := [.int (iI (s)), .int (iI (b))]) dX8_hasRoom_32 oX8_hasOpen w_1928 w_1930 w_42 rfl (by omega) rfl (Nat.le_of_ble_eq_true rfl) (by decide) (s_123 hsh) rfl (c8_hasOpen (σ := σ) hsh hM (by omega) (by omega)) ?_
    refine k_if_eq (tgt := 56) dX8_hasRoom_35 rfl (zb_kr _) (fun h4 => ?_) (fun h4 => ?_)
    · have h4 := zb_0.mp h4
      refine k_iff (F := (k_pB sh σ)) h4 ?_
      refine k_iconst (v := 0) dX8_hasRoom_56 rfl ?_
      exact k_retzP dX8_hasRoom_57 rfl (Or.inl rfl) rfl k_lfF True.intro
    · have h4 := zb_n0.mp h4
      refine k_ift (F := (k_pB sh σ)) h4 ?_
      refine k_iload dX8_hasRoom_38 4 rfl ?_
      refine k_aload_n dX8_hasRoom_40 0 rfl rfl (by decide) ?_
      refine k_get (kf := 0) (v := .ref 124) dX8_hasRoom_41 kcX8 w_1747 (by decide) (by decide) (s_123 hsh) rfl rfl ?_
      refine k_bipush (v := 10) dX8_hasRoom_44 (by decide) ?_
      refine k_iload_n dX8_hasRoom_46 1 rfl rfl ?_
      refine k_iadd dX8_hasRoom_47 ?_
      refine k_iald dX8_hasRoom_48 (by decide) (s_124 hsh) (by omega) (by omega) (by decide) ?_
      have q5 := k_Mo_siz hM (x := 10 + s) (by omega) (by omega)
      refine k_icmp_ge (tgt := 56) dX8_hasRoom_49 rfl ⟨by omega, by omega⟩ ⟨by omega, by omega⟩ (fun h6 => ?_) (fun h6 => ?_)
      · refine k_iff (F := (k_pB sh σ)) (Int.not_lt.mpr h6) ?_
        refine k_iconst (v := 0) dX8_hasRoom_56 rfl ?_
        exact k_retzP dX8_hasRoom_57 rfl (Or.inl rfl) rfl k_lfF True.intro
      · refine k_ift (F := (k_pB sh σ)) h6 ?_
        refine k_iconst (v := 1) dX8_hasRoom_52 rfl ?_
        refine k_goto (tgt := 57) dX8_hasRoom_53 rfl ?_
        exact k_retzP dX8_hasRoom_57 rfl (Or.inr rfl) rfl k_lfT True.intro
  · refine k_iff (F := (k_pB sh σ)) h2 ?_
    refine k_aload_n dX8_hasRoom_11 0 rfl rfl (by decide) ?_
    refine k_iload_n dX8_hasRoom_12 3 rfl rfl ?_
    refine k_iload_n dX8_hasRoom_13 2 rfl rfl ?_
    refine k_callVr (st := [.int (iI (m_inClass (σ 124) s b))]) (as := [.int (iI (wo)), .int (iI (b))]) dX8_hasRoom_14 oX8_subjectOf w_1908 w_1910 w_40 rfl (by omega) rfl (Nat.le_of_ble_eq_true rfl) (by decide) (s_123 hsh) rfl (c8_subjectOf (σ := σ) hsh hM (by omega) (by omega)) ?_
    have q7 := k_Mo_tab hM (x := 105 + 4 * wo + b) (by omega) (by omega)
    refine k_iload_n dX8_hasRoom_17 1 rfl rfl ?_
    refine k_icmp_ne (tgt := 25) dX8_hasRoom_18 rfl ⟨by omega, by omega⟩ ⟨by omega, by omega⟩ (fun h9 => ?_) (fun h9 => ?_)
    · refine k_iff (F := (k_pB sh σ)) h9 ?_
      refine k_iconst (v := 0) dX8_hasRoom_25 rfl ?_
      refine k_isub dX8_hasRoom_26 ?_
      refine k_istore (ls' := [(0, .ref 123), (1, .int (iI (s))), (2, .int (iI (b))), (3, .int (iI (wo))), (4, .int (iI ((m_inClass (σ 124) s b) - 0)))]) dX8_hasRoom_27 (by decide) rfl rfl ?_
      refine k_aload_n dX8_hasRoom_29 0 rfl rfl (by decide) ?_
      refine k_iload_n dX8_hasRoom_30 1 rfl rfl ?_
      refine k_iload_n dX8_hasRoom_31 2 rfl rfl ?_
      refine k_callVr (st := []) (as := [.int (iI (s)), .int (iI (b))]) dX8_hasRoom_32 oX8_hasOpen w_1928 w_1930 w_42 rfl (by omega) rfl (Nat.le_of_ble_eq_true rfl) (by decide) (s_123 hsh) rfl (c8_hasOpen (σ := σ) hsh hM (by omega) (by omega)) ?_
      refine k_if_eq (tgt := 56) dX8_hasRoom_35 rfl (zb_kr _) (fun h11 => ?_) (fun h11 => ?_)
      · have h11 := zb_0.mp h11
        refine k_iff (F := (k_pB sh σ)) h11 ?_
        refine k_iconst (v := 0) dX8_hasRoom_56 rfl ?_
        exact k_retzP dX8_hasRoom_57 rfl (Or.inl rfl) rfl k_lfF True.intro
      · have h11 := zb_n0.mp h11
        refine k_ift (F := (k_pB sh σ)) h11 ?_
        refine k_iload dX8_hasRoom_38 4 rfl ?_
        refine k_aload_n dX8_hasRoom_40 0 rfl rfl (by decide) ?_
        refine k_get (kf := 0) (v := .ref 124) dX8_hasRoom_41 kcX8 w_1747 (by decide) (by decide) (s_123 hsh) rfl rfl ?_
        refine k_bipush (v := 10) dX8_hasRoom_44 (by decide) ?_
        refine k_iload_n dX8_hasRoom_46 1 rfl rfl ?_
        refine k_iadd dX8_hasRoom_47 ?_
        refine k_iald dX8_hasRoom_48 (by decide) (s_124 hsh) (by omega) (by omega) (by decide) ?_
        have q12 := k_Mo_siz hM (x := 10 + s) (by omega) (by omega)
        refine k_icmp_ge (tgt := 56) dX8_hasRoom_49 rfl ⟨by omega, by omega⟩ ⟨by omega, by omega⟩ (fun h13 => ?_) (fun h13 => ?_)
        · refine k_iff (F := (k_pB sh σ)) (Int.not_lt.mpr h13) ?_
          refine k_iconst (v := 0) dX8_hasRoom_56 rfl ?_
          exact k_retzP dX8_hasRoom_57 rfl (Or.inl rfl) rfl k_lfF True.intro
        · refine k_ift (F := (k_pB sh σ)) h13 ?_
          refine k_iconst (v := 1) dX8_hasRoom_52 rfl ?_
          refine k_goto (tgt := 57) dX8_hasRoom_53 rfl ?_
          exact k_retzP dX8_hasRoom_57 rfl (Or.inr rfl) rfl k_lfT True.intro
    · refine k_ift (F := (k_pB sh σ)) h9 ?_
      refine k_iconst (v := 1) dX8_hasRoom_21 rfl ?_
      refine k_goto (tgt := 26) dX8_hasRoom_22 rfl ?_
      refine k_isub dX8_hasRoom_26 ?_
      refine k_istore (ls' := [(0, .ref 123), (1, .int (iI (s))), (2, .int (iI (b))), (3, .int (iI (wo))), (4, .int (iI ((m_inClass (σ 124) s b) - 1)))]) dX8_hasRoom_27 (by decide) rfl rfl ?_
      refine k_aload_n dX8_hasRoom_29 0 rfl rfl (by decide) ?_
      refine k_iload_n dX8_hasRoom_30 1 rfl rfl ?_
      refine k_iload_n dX8_hasRoom_31 2 rfl rfl ?_
      refine k_callVr (st := []) (as := [.int (iI (s)), .int (iI (b))]) dX8_hasRoom_32 oX8_hasOpen w_1928 w_1930 w_42 rfl (by omega) rfl (Nat.le_of_ble_eq_true rfl) (by decide) (s_123 hsh) rfl (c8_hasOpen (σ := σ) hsh hM (by omega) (by omega)) ?_
      refine k_if_eq (tgt := 56) dX8_hasRoom_35 rfl (zb_kr _) (fun h15 => ?_) (fun h15 => ?_)
      · have h15 := zb_0.mp h15
        refine k_iff (F := (k_pB sh σ)) h15 ?_
        refine k_iconst (v := 0) dX8_hasRoom_56 rfl ?_
        exact k_retzP dX8_hasRoom_57 rfl (Or.inl rfl) rfl k_lfF True.intro
      · have h15 := zb_n0.mp h15
        refine k_ift (F := (k_pB sh σ)) h15 ?_
        refine k_iload dX8_hasRoom_38 4 rfl ?_
        refine k_aload_n dX8_hasRoom_40 0 rfl rfl (by decide) ?_
        refine k_get (kf := 0) (v := .ref 124) dX8_hasRoom_41 kcX8 w_1747 (by decide) (by decide) (s_123 hsh) rfl rfl ?_
        refine k_bipush (v := 10) dX8_hasRoom_44 (by decide) ?_
        refine k_iload_n dX8_hasRoom_46 1 rfl rfl ?_
        refine k_iadd dX8_hasRoom_47 ?_
        refine k_iald dX8_hasRoom_48 (by decide) (s_124 hsh) (by omega) (by omega) (by decide) ?_
        have q16 := k_Mo_siz hM (x := 10 + s) (by omega) (by omega)
        refine k_icmp_ge (tgt := 56) dX8_hasRoom_49 rfl ⟨by omega, by omega⟩ ⟨by omega, by omega⟩ (fun h17 => ?_) (fun h17 => ?_)
        · refine k_iff (F := (k_pB sh σ)) (Int.not_lt.mpr h17) ?_
          refine k_iconst (v := 0) dX8_hasRoom_56 rfl ?_
          exact k_retzP dX8_hasRoom_57 rfl (Or.inl rfl) rfl k_lfF True.intro
        · refine k_ift (F := (k_pB sh σ)) h17 ?_
          refine k_iconst (v := 1) dX8_hasRoom_52 rfl ?_
          refine k_goto (tgt := 57) dX8_hasRoom_53 rfl ?_
          exact k_retzP dX8_hasRoom_57 rfl (Or.inr rfl) rfl k_lfT True.intro
def r_lacksWish_4 (r : Nat → Int) (a : Nat → Int) (p : Int) (x4 : Int) : Bool := decide (x4 = 1)
def b_lacksWish_4 (r : Nat → Int) (a : Nat → Int) (p : Int) (i4 : Nat) (x4 : Int) : Int := if x4 = 0 then if (a ((i4 : Int)).toNat) = 4 then 1 else 0 else 1
def m_lacksWish (r : Nat → Int) (a : Nat → Int) (p : Int) : Bool := (r_lacksWish_4 r a p) (k_it (b_lacksWish_4 r a p) ((r (45 + p).toNat).toNat) 0 (0))
set_option maxRecDepth 100000 in
set_option maxHeartbeats 4000000 in
theorem c8_lacksWish (hsh : k_Main sh) (hM : k_Mo (σ 124)) {p : Int} (h_p : 0 ≤ p ∧ p < 12) (hA : k_rg 0 4 (σ 131)) : k_C E mX8_lacksWish 1 [.ref 123, .int (iI (p))] sh σ 0 0 ((k_pB sh σ) (m_lacksWish (σ 124) (σ 131) p)) := by
  refine k_C_of (ls0 := [(0, .ref 123), (1, .int (iI (p)))]) rfl pnX8 (fun v hv => k_cat1 rfl hv) (Nat.le_of_ble_eq_true rfl) rfl ?_
  obtain ⟨⟨t0, t0b⟩, ⟨t1, t1b⟩, ⟨t2, t2b⟩, ⟨t3, t3b⟩, -⟩ := id hM
  unfold m_lacksWish
  refine k_iconst (v := 0) dX8_lacksWish_0 rfl ?_
  refine k_istore_n (ls' := [(0, .ref 123), (1, .int (iI (p))), (2, .int (iI (0)))]) dX8_lacksWish_1 rfl (by decide) rfl rfl ?_
  refine k_iconst (v := 0) dX8_lacksWish_2 rfl ?_
  refine k_istore_n (ls' := [(0, .ref 123), (1, .int (iI (p))), (2, .int (iI (0))), (3, .int (iI (0)))]) dX8_lacksWish_3 rfl (by decide) rfl rfl ?_
  refine k_loop (α := Int) (P := fun (i4 : Nat) (x4 : Int) Q => k_V E mX8_lacksWish _ 4 [(0, .ref 123), (1, .int (iI (p))), (2, .int (iI (x4))), (3, .int (iI ((i4 : Int))))] [] sh σ _ _ Q) (J := fun (i4 : Nat) (x4 : Int) => 0 ≤ x4 ∧ x4 ≤ 1) (((σ 124) (45 + p).toNat).toNat) (b_lacksWish_4 (σ 124) (σ 131) p) (0) (F := fun t => (k_pB sh σ) ((r_lacksWish_4 (σ 124) (σ 131) p) t)) (show 0 ≤ (0 : Int) ∧ (0 : Int) ≤ 1 from by omega) ?_ ?_
  · intro x4 hJ4
    have hJ4 : 0 ≤ x4 ∧ x4 ≤ 1 := hJ4
    have hU4 := hJ4
    show k_V E mX8_lacksWish _ 4 [(0, .ref 123), (1, .int (iI (p))), (2, .int (iI (x4))), (3, .int (iI (((((σ 124) (45 + p).toNat).toNat : Nat) : Int))))] [] sh σ _ _ ((k_pB sh σ) ((r_lacksWish_4 (σ 124) (σ 131) p) x4))
    unfold r_lacksWish_4
    refine k_iload_n dX8_lacksWish_4 3 rfl rfl ?_
    refine k_aload_n dX8_lacksWish_5 0 rfl rfl (by decide) ?_
    refine k_get (kf := 0) (v := .ref 124) dX8_lacksWish_6 kcX8 w_1747 (by decide) (by decide) (s_123 hsh) rfl rfl ?_
    refine k_bipush (v := 45) dX8_lacksWish_9 (by decide) ?_
    refine k_iload_n dX8_lacksWish_11 1 rfl rfl ?_
    refine k_iadd dX8_lacksWish_12 ?_
    refine k_iald dX8_lacksWish_13 (by decide) (s_124 hsh) (by omega) (by omega) (by decide) ?_
    have q2 := k_Mo_many hM (x := 45 + p) (by omega) (by omega)
    refine k_icmp_ge (tgt := 43) dX8_lacksWish_14 rfl ⟨by omega, by omega⟩ ⟨by omega, by omega⟩ (fun h3 => ?_) (fun h3 => absurd h3 (by omega))
    refine k_iload_n dX8_lacksWish_43 2 rfl rfl ?_
    exact k_retzP dX8_lacksWish_44 rfl (by omega) rfl (k_lfV (by omega)) True.intro
  · intro n4 i4 x4 hi4 hJ4 ih4
    have hJ4 : 0 ≤ x4 ∧ x4 ≤ 1 := hJ4
    have hU4 := hJ4
    show k_V E mX8_lacksWish _ 4 [(0, .ref 123), (1, .int (iI (p))), (2, .int (iI (x4))), (3, .int (iI ((i4 : Int))))] [] sh σ _ _ ((fun t => (k_pB sh σ) ((r_lacksWish_4 (σ 124) (σ 131) p) (k_it (b_lacksWish_4 (σ 124) (σ 131) p) n4 (i4 + 1) t))) ((b_lacksWish_4 (σ 124) (σ 131) p) i4 x4))
    unfold b_lacksWish_4
    refine k_iload_n dX8_lacksWish_4 3 rfl rfl ?_
    refine k_aload_n dX8_lacksWish_5 0 rfl rfl (by decide) ?_
    refine k_get (kf := 0) (v := .ref 124) dX8_lacksWish_6 kcX8 w_1747 (by decide) (by decide) (s_123 hsh) rfl rfl ?_
    refine k_bipush (v := 45) dX8_lacksWish_9 (by decide) ?_
    refine k_iload_n dX8_lacksWish_11 1 rfl rfl ?_
    refine k_iadd dX8_lacksWish_12 ?_
    refine k_iald dX8_lacksWish_13 (by decide) (s_124 hsh) (by omega) (by omega) (by decide) ?_
    have q4 := k_Mo_many hM (x := 45 + p) (by omega) (by omega)
    refine k_icmp_ge (tgt := 43) dX8_lacksWish_14 rfl ⟨by omega, by omega⟩ ⟨by omega, by omega⟩ (fun h5 => absurd h5 (by omega)) (fun h5 => ?_)
    refine k_iload_n dX8_lacksWish_17 2 rfl rfl ?_
    refine k_if_ne (tgt := 31) dX8_lacksWish_18 rfl ⟨by omega, by omega⟩ (fun h6 => ?_) (fun h6 => ?_)
    · refine k_iff (F := (fun t => (k_pB sh σ) ((r_lacksWish_4 (σ 124) (σ 131) p) (k_it (b_lacksWish_4 (σ 124) (σ 131) p) n4 (i4 + 1) t)))) h6 ?_
      refine k_iconst (v := 1) dX8_lacksWish_31 rfl ?_
      refine k_goto (tgt := 36) dX8_lacksWish_32 rfl ?_
      refine k_istore_n (ls' := [(0, .ref 123), (1, .int (iI (p))), (2, .int (iI (1))), (3, .int (iI ((i4 : Int))))]) dX8_lacksWish_36 rfl (by decide) rfl rfl ?_
      refine k_iinc (ls' := [(0, .ref 123), (1, .int (iI (p))), (2, .int (iI (1))), (3, .int (iI ((i4 : Int) + 1)))]) dX8_lacksWish_37 3 rfl (by decide) rfl rfl ?_
      refine k_goto (tgt := 4) dX8_lacksWish_40 rfl ?_
      exact ih4 (1) (show 0 ≤ (1 : Int) ∧ (1 : Int) ≤ 1 from by omega)
    · refine k_ift (F := (fun t => (k_pB sh σ) ((r_lacksWish_4 (σ 124) (σ 131) p) (k_it (b_lacksWish_4 (σ 124) (σ 131) p) n4 (i4 + 1) t)))) h6 ?_
      refine k_aload_n dX8_lacksWish_21 0 rfl rfl (by decide) ?_
      refine k_get (kf := 17) (v := .ref 131) dX8_lacksWish_22 kcX8 w_1764 (by decide) (by decide) (s_123 hsh) rfl rfl ?_
      refine k_iload_n dX8_lacksWish_25 3 rfl rfl ?_
      refine k_iald dX8_lacksWish_26 (by decide) (s_131 hsh) (by omega) (by omega) (by decide) ?_
      have q7 := hA ((i4 : Int)).toNat
      refine k_iconst (v := 4) dX8_lacksWish_27 rfl ?_
      refine k_icmp_ne (tgt := 35) dX8_lacksWish_28 rfl ⟨by omega, by omega⟩ ⟨by decide, by decide⟩ (fun h8 => ?_) (fun h8 => ?_)
      · refine k_iff (F := (fun t => (k_pB sh σ) ((r_lacksWish_4 (σ 124) (σ 131) p) (k_it (b_lacksWish_4 (σ 124) (σ 131) p) n4 (i4 + 1) t)))) h8 ?_
        refine k_iconst (v := 0) dX8_lacksWish_35 rfl ?_
        refine k_istore_n (ls' := [(0, .ref 123), (1, .int (iI (p))), (2, .int (iI (0))), (3, .int (iI ((i4 : Int))))]) dX8_lacksWish_36 rfl (by decide) rfl rfl ?_
        refine k_iinc (ls' := [(0, .ref 123), (1, .int (iI (p))), (2, .int (iI (0))), (3, .int (iI ((i4 : Int) + 1)))]) dX8_lacksWish_37 3 rfl (by decide) rfl rfl ?_
        refine k_goto (tgt := 4) dX8_lacksWish_40 rfl ?_
        exact ih4 (0) (show 0 ≤ (0 : Int) ∧ (0 : Int) ≤ 1 from by omega)
      · refine k_ift (F := (fun t => (k_pB sh σ) ((r_lacksWish_4 (σ 124) (σ 131) p) (k_it (b_lacksWish_4 (σ 124) (σ 131) p) n4 (i4 + 1) t)))) h8 ?_
        refine k_iconst (v := 1) dX8_lacksWish_31 rfl ?_
        refine k_goto (tgt := 36) dX8_lacksWish_32 rfl ?_
        refine k_istore_n (ls' := [(0, .ref 123), (1, .int (iI (p))), (2, .int (iI (1))), (3, .int (iI ((i4 : Int))))]) dX8_lacksWish_36 rfl (by decide) rfl rfl ?_
        refine k_iinc (ls' := [(0, .ref 123), (1, .int (iI (p))), (2, .int (iI (1))), (3, .int (iI ((i4 : Int) + 1)))]) dX8_lacksWish_37 3 rfl (by decide) rfl rfl ?_
        refine k_goto (tgt := 4) dX8_lacksWish_40 rfl ?_
        exact ih4 (1) (show 0 ≤ (1 : Int) ∧ (1 : Int) ≤ 1 from by omega)
abbrev R_worth (v : Int) : Prop := -1 ≤ v ∧ v ≤ 100
def r_worth_7 (r : Nat → Int) (a : Nat → Int) (p : Int) (x7 : Int × Int) : Int := if (a 3) < 4 then if m_lacksWish r a p = true then x7.2 else -1 else x7.2
def b_worth_7 (r : Nat → Int) (a : Nat → Int) (p : Int) (i7 : Nat) (x7 : Int × Int) : (Int) ⊕ (Int × Int) := if (a ((i7 : Int)).toNat) = 4 then .inr ((x7.1, x7.2)) else if (i7 : Int) = 3 then if (r (93 + p).toNat) = (-1) then .inl (-1) else if (a ((i7 : Int)).toNat) < (r 1) then if (z_and (z_shr (x7.1) (a ((i7 : Int)).toNat)) (1)) = 1 then .inl (-1) else if m_hasRoom r (r (93 + p).toNat) (a ((i7 : Int)).toNat) p = true then if (i7 : Int) = 3 then .inr ((z_or (x7.1) (z_one (a ((i7 : Int)).toNat)), (x7.2) + 1)) else .inr ((z_or (x7.1) (z_one (a ((i7 : Int)).toNat)), (x7.2) + (z_shr (8) ((i7 : Int))))) else .inl (-1) else .inl (-1) else if (i7 : Int) < (r (45 + p).toNat) then if (r (57 + 3 * p + (i7 : Int)).toNat) = (-1) then .inl (-1) else if (a ((i7 : Int)).toNat) < (r 1) then if (z_and (z_shr (x7.1) (a ((i7 : Int)).toNat)) (1)) = 1 then .inl (-1) else if m_hasRoom r (r (57 + 3 * p + (i7 : Int)).toNat) (a ((i7 : Int)).toNat) p = true then if (i7 : Int) = 3 then .inr ((z_or (x7.1) (z_one (a ((i7 : Int)).toNat)), (x7.2) + 1)) else .inr ((z_or (x7.1) (z_one (a ((i7 : Int)).toNat)), (x7.2) + (z_shr (8) ((i7 : Int))))) else .inl (-1) else .inl (-1) else .inl (-1)
def m_worth (r : Nat → Int) (a : Nat → Int) (p : Int) : Int := k_els (r_worth_7 r a p) (k_for (b_worth_7 r a p) (4) 0 ((0, 0)))
set_option maxRecDepth 100000 in
set_option maxHeartbeats 4000000 in
theorem c8_worth (hsh : k_Main sh) (hM : k_Mo (σ 124)) {p : Int} (h_p : 0 ≤ p ∧ p < 12) (hA : k_rg 0 4 (σ 131)) : k_C E mX8_worth 4 [.ref 123, .int (iI (p))] sh σ 0 0 ((k_pV sh σ (R_worth)) (m_worth (σ 124) (σ 131) p)) := by
  refine k_C_of (ls0 := [(0, .ref 123), (1, .int (iI (p)))]) rfl pnX8 (fun v hv => k_cat1 rfl hv) (Nat.le_of_ble_eq_true rfl) rfl ?_
  obtain ⟨⟨t0, t0b⟩, ⟨t1, t1b⟩, ⟨t2, t2b⟩, ⟨t3, t3b⟩, -⟩ := id hM
  unfold m_worth
  refine k_iconst (v := 0) dX8_worth_0 rfl ?_
  refine k_istore_n (ls' := [(0, .ref 123), (1, .int (iI (p))), (2, .int (iI (0)))]) dX8_worth_1 rfl (by decide) rfl rfl ?_
  refine k_iconst (v := 0) dX8_worth_2 rfl ?_
  refine k_istore_n (ls' := [(0, .ref 123), (1, .int (iI (p))), (2, .int (iI (0))), (3, .int (iI (0)))]) dX8_worth_3 rfl (by decide) rfl rfl ?_
  refine k_iconst (v := 0) dX8_worth_4 rfl ?_
  refine k_istore (ls' := [(0, .ref 123), (1, .int (iI (p))), (2, .int (iI (0))), (3, .int (iI (0))), (4, .int (iI (0)))]) dX8_worth_5 (by decide) rfl rfl ?_
  refine k_loopR (α := Int × Int) (P := fun (i7 : Nat) (x7 : Int × Int) Q => k_V E mX8_worth _ 7 [(0, .ref 123), (1, .int (iI (p))), (2, .int (iI (x7.2))), (3, .int (iI (x7.1))), (4, .int (iI ((i7 : Int))))] [] sh σ _ _ Q) (J := fun (i7 : Nat) (x7 : Int × Int) => (0 ≤ x7.1 ∧ x7.1 < 16) ∧ 0 ≤ x7.2 ∧ x7.2 ≤ 8 * (i7 : Int)) (4) (b_worth_7 (σ 124) (σ 131) p) ((0, 0)) (F := fun t => (k_pV sh σ (R_worth)) (k_els (r_worth_7 (σ 124) (σ 131) p) t)) (show (0 ≤ (0 : Int) ∧ (0 : Int) < 16) ∧ 0 ≤ (0 : Int) ∧ (0 : Int) ≤ 8 * ((0 : Nat) : Int) from by omega) ?_ ?_
  · intro x7 hJ7
    have hJ7 : (0 ≤ x7.1 ∧ x7.1 < 16) ∧ 0 ≤ x7.2 ∧ x7.2 ≤ 8 * ((4 : Nat) : Int) := hJ7
    have hU7 := hJ7
    show k_V E mX8_worth _ 7 [(0, .ref 123), (1, .int (iI (p))), (2, .int (iI (x7.2))), (3, .int (iI (x7.1))), (4, .int (iI (((4 : Nat) : Int))))] [] sh σ _ _ ((k_pV sh σ (R_worth)) ((r_worth_7 (σ 124) (σ 131) p) x7))
    unfold r_worth_7
    refine k_iload dX8_worth_7 4 rfl ?_
    refine k_iconst (v := 4) dX8_worth_9 rfl ?_
    refine k_icmp_ge (tgt := 164) dX8_worth_10 rfl ⟨by omega, by omega⟩ ⟨by decide, by decide⟩ (fun h2 => ?_) (fun h2 => absurd h2 (by omega))
    refine k_aload_n dX8_worth_164 0 rfl rfl (by decide) ?_
    refine k_get (kf := 17) (v := .ref 131) dX8_worth_165 kcX8 w_1764 (by decide) (by decide) (s_123 hsh) rfl rfl ?_
    refine k_iconst (v := 3) dX8_worth_168 rfl ?_
    refine k_iald dX8_worth_169 (by decide) (s_131 hsh) (by omega) (by omega) (by decide) ?_
    refine k_eqst (st' := [.int (iI ((σ 131) 3))]) rfl ?_
    have q3 := hA 3
    refine k_iconst (v := 4) dX8_worth_170 rfl ?_
    refine k_icmp_ge (tgt := 186) dX8_worth_171 rfl ⟨by omega, by omega⟩ ⟨by decide, by decide⟩ (fun h4 => ?_) (fun h4 => ?_)
    · refine k_iff (F := (k_pV sh σ (R_worth))) (Int.not_lt.mpr h4) ?_
      refine k_iload_n dX8_worth_186 2 rfl rfl ?_
      exact k_retiP dX8_worth_187 rfl rfl rfl (show -1 ≤ x7.2 ∧ x7.2 ≤ 100 from by omega)
    · refine k_ift (F := (k_pV sh σ (R_worth))) h4 ?_
      refine k_aload_n dX8_worth_174 0 rfl rfl (by decide) ?_
      refine k_iload_n dX8_worth_175 1 rfl rfl ?_
      refine k_callVrP (st := []) (as := [.int (iI (p))]) dX8_worth_176 oX8_lacksWish w_2060 w_2062 w_59 rfl (by omega) rfl (Nat.le_of_ble_eq_true rfl) (by decide) (s_123 hsh) rfl (c8_lacksWish hsh hM (by omega) hA) (fun z5 => ?_)
      refine k_if_ne (tgt := 186) dX8_worth_179 rfl (zb_kr _) (fun h6 => ?_) (fun h6 => ?_)
      · have h6 := zb_n0.mp h6
        refine k_ift (F := (k_pV sh σ (R_worth))) h6 ?_
        refine k_iload_n dX8_worth_186 2 rfl rfl ?_
        exact k_retiP dX8_worth_187 rfl rfl rfl (show -1 ≤ x7.2 ∧ x7.2 ≤ 100 from by omega)
      · have h6 := zb_0.mp h6
        refine k_iff (F := (k_pV sh σ (R_worth))) h6 ?_
        refine k_iconst (v := (-1)) dX8_worth_182 rfl ?_
        refine k_goto (tgt := 187) dX8_worth_183 rfl ?_
        exact k_retiP dX8_worth_187 rfl rfl rfl (show -1 ≤ (-1 : Int) ∧ (-1 : Int) ≤ 100 from by omega)
  · intro n7 i7 x7 hi7 hJ7 ih7
    have hJ7 : (0 ≤ x7.1 ∧ x7.1 < 16) ∧ 0 ≤ x7.2 ∧ x7.2 ≤ 8 * (i7 : Int) := hJ7
    have hU7 := hJ7
    show k_V E mX8_worth _ 7 [(0, .ref 123), (1, .int (iI (p))), (2, .int (iI (x7.2))), (3, .int (iI (x7.1))), (4, .int (iI ((i7 : Int))))] [] sh σ _ _ ((fun t => (k_pV sh σ (R_worth)) (k_els (r_worth_7 (σ 124) (σ 131) p) (k_cn2 (k_for (b_worth_7 (σ 124) (σ 131) p) n7 (i7 + 1)) t))) ((b_worth_7 (σ 124) (σ 131) p) i7 x7))
    unfold b_worth_7
    refine k_iload dX8_worth_7 4 rfl ?_
    refine k_iconst (v := 4) dX8_worth_9 rfl ?_
    refine k_icmp_ge (tgt := 164) dX8_worth_10 rfl ⟨by omega, by omega⟩ ⟨by decide, by decide⟩ (fun h7 => absurd h7 (by omega)) (fun h7 => ?_)
    refine k_aload_n dX8_worth_13 0 rfl rfl (by decide) ?_
    refine k_get (kf := 17) (v := .ref 131) dX8_worth_14 kcX8 w_1764 (by decide) (by decide) (s_123 hsh) rfl rfl ?_
    refine k_iload dX8_worth_17 4 rfl ?_
    refine k_iald dX8_worth_19 (by decide) (s_131 hsh) (by omega) (by omega) (by decide) ?_
    have q8 := hA ((i7 : Int)).toNat
    refine k_iconst (v := 4) dX8_worth_20 rfl ?_
    refine k_icmp_ne (tgt := 27) dX8_worth_21 rfl ⟨by omega, by omega⟩ ⟨by decide, by decide⟩ (fun h9 => ?_) (fun h9 => ?_)
    · refine k_iff (F := (fun t => (k_pV sh σ (R_worth)) (k_els (r_worth_7 (σ 124) (σ 131) p) (k_cn2 (k_for (b_worth_7 (σ 124) (σ 131) p) n7 (i7 + 1)) t)))) h9 ?_
      refine k_iload dX8_worth_27 4 rfl ?_
      refine k_iconst (v := 3) dX8_worth_29 rfl ?_
      refine k_icmp_ne (tgt := 45) dX8_worth_30 rfl ⟨by omega, by omega⟩ ⟨by decide, by decide⟩ (fun h10 => ?_) (fun h10 => ?_)
      · refine k_iff (F := (fun t => (k_pV sh σ (R_worth)) (k_els (r_worth_7 (σ 124) (σ 131) p) (k_cn2 (k_for (b_worth_7 (σ 124) (σ 131) p) n7 (i7 + 1)) t)))) h10 ?_
        refine k_iload dX8_worth_45 4 rfl ?_
        refine k_aload_n dX8_worth_47 0 rfl rfl (by decide) ?_
        refine k_get (kf := 0) (v := .ref 124) dX8_worth_48 kcX8 w_1747 (by decide) (by decide) (s_123 hsh) rfl rfl ?_
        refine k_bipush (v := 45) dX8_worth_51 (by decide) ?_
        refine k_iload_n dX8_worth_53 1 rfl rfl ?_
        refine k_iadd dX8_worth_54 ?_
        refine k_iald dX8_worth_55 (by decide) (s_124 hsh) (by omega) (by omega) (by decide) ?_
        have q11 := k_Mo_many hM (x := 45 + p) (by omega) (by omega)
        refine k_icmp_ge (tgt := 69) dX8_worth_56 rfl ⟨by omega, by omega⟩ ⟨by omega, by omega⟩ (fun h12 => ?_) (fun h12 => ?_)
        · refine k_iff (F := (fun t => (k_pV sh σ (R_worth)) (k_els (r_worth_7 (σ 124) (σ 131) p) (k_cn2 (k_for (b_worth_7 (σ 124) (σ 131) p) n7 (i7 + 1)) t)))) (Int.not_lt.mpr h12) ?_
          refine k_iconst (v := (-1)) dX8_worth_69 rfl ?_
          refine k_istore (ls' := [(0, .ref 123), (1, .int (iI (p))), (2, .int (iI (x7.2))), (3, .int (iI (x7.1))), (4, .int (iI ((i7 : Int)))), (5, .int (iI (-1)))]) dX8_worth_70 (by decide) rfl rfl ?_
          refine k_iload dX8_worth_72 5 rfl ?_
          refine k_iconst (v := (-1)) dX8_worth_74 rfl ?_
          refine k_icmp_eq (tgt := 126) dX8_worth_75 rfl ⟨by decide, by decide⟩ ⟨by decide, by decide⟩ (fun h13 => ?_) (fun h13 => absurd h13 (by decide))
          refine k_iconst (v := (-1)) dX8_worth_126 rfl ?_
          exact k_retiP dX8_worth_127 rfl rfl rfl (show -1 ≤ (-1 : Int) ∧ (-1 : Int) ≤ 100 from by omega)
        · refine k_ift (F := (fun t => (k_pV sh σ (R_worth)) (k_els (r_worth_7 (σ 124) (σ 131) p) (k_cn2 (k_for (b_worth_7 (σ 124) (σ 131) p) n7 (i7 + 1)) t)))) h12 ?_
          refine k_aload_n dX8_worth_59 0 rfl rfl (by decide) ?_
          refine k_iload_n dX8_worth_60 1 rfl rfl ?_
          refine k_iload dX8_worth_61 4 rfl ?_
          refine k_callVr (st := []) (as := [.int (iI (p)), .int (iI ((i7 : Int)))]) dX8_worth_63 oX8_wish w_2000 w_2002 w_51 rfl (by omega) rfl (Nat.le_of_ble_eq_true rfl) (by decide) (s_123 hsh) rfl (c8_wish (σ := σ) hsh hM (by omega) (by omega)) ?_
          have q14 := k_Mo_wish hM (x := 57 + 3 * p + (i7 : Int)) (by omega) (by omega)
          refine k_goto (tgt := 70) dX8_worth_66 rfl ?_
          refine k_istore (ls' := [(0, .ref 123), (1, .int (iI (p))), (2, .int (iI (x7.2))), (3, .int (iI (x7.1))), (4, .int (iI ((i7 : Int)))), (5, .int (iI ((σ 124) (57 + 3 * p + (i7 : Int)).toNat)))]) dX8_worth_70 (by decide) rfl rfl ?_
          refine k_iload dX8_worth_72 5 rfl ?_
          refine k_iconst (v := (-1)) dX8_worth_74 rfl ?_
          refine k_icmp_eq (tgt := 126) dX8_worth_75 rfl ⟨by omega, by omega⟩ ⟨by decide, by decide⟩ (fun h16 => ?_) (fun h16 => ?_)
          · refine k_ift (F := (fun t => (k_pV sh σ (R_worth)) (k_els (r_worth_7 (σ 124) (σ 131) p) (k_cn2 (k_for (b_worth_7 (σ 124) (σ 131) p) n7 (i7 + 1)) t)))) h16 ?_
            refine k_iconst (v := (-1)) dX8_worth_126 rfl ?_
            exact k_retiP dX8_worth_127 rfl rfl rfl (show -1 ≤ (-1 : Int) ∧ (-1 : Int) ≤ 100 from by omega)
          · refine k_iff (F := (fun t => (k_pV sh σ (R_worth)) (k_els (r_worth_7 (σ 124) (σ 131) p) (k_cn2 (k_for (b_worth_7 (σ 124) (σ 131) p) n7 (i7 + 1)) t)))) h16 ?_
            refine k_aload_n dX8_worth_78 0 rfl rfl (by decide) ?_
            refine k_get (kf := 17) (v := .ref 131) dX8_worth_79 kcX8 w_1764 (by decide) (by decide) (s_123 hsh) rfl rfl ?_
            refine k_iload dX8_worth_82 4 rfl ?_
            refine k_iald dX8_worth_84 (by decide) (s_131 hsh) (by omega) (by omega) (by decide) ?_
            have q17 := hA ((i7 : Int)).toNat
            refine k_aload_n dX8_worth_85 0 rfl rfl (by decide) ?_
            refine k_get (kf := 0) (v := .ref 124) dX8_worth_86 kcX8 w_1747 (by decide) (by decide) (s_123 hsh) rfl rfl ?_
            refine k_iconst (v := 1) dX8_worth_89 rfl ?_
            refine k_iald dX8_worth_90 (by decide) (s_124 hsh) (by omega) (by omega) (by decide) ?_
            refine k_eqst (st' := [.int (iI ((σ 124) 1)), .int (iI ((σ 131) ((i7 : Int)).toNat))]) rfl ?_
            refine k_icmp_ge (tgt := 126) dX8_worth_91 rfl ⟨by omega, by omega⟩ ⟨by omega, by omega⟩ (fun h18 => ?_) (fun h18 => ?_)
            · refine k_iff (F := (fun t => (k_pV sh σ (R_worth)) (k_els (r_worth_7 (σ 124) (σ 131) p) (k_cn2 (k_for (b_worth_7 (σ 124) (σ 131) p) n7 (i7 + 1)) t)))) (Int.not_lt.mpr h18) ?_
              refine k_iconst (v := (-1)) dX8_worth_126 rfl ?_
              exact k_retiP dX8_worth_127 rfl rfl rfl (show -1 ≤ (-1 : Int) ∧ (-1 : Int) ≤ 100 from by omega)
            · refine k_ift (F := (fun t => (k_pV sh σ (R_worth)) (k_els (r_worth_7 (σ 124) (σ 131) p) (k_cn2 (k_for (b_worth_7 (σ 124) (σ 131) p) n7 (i7 + 1)) t)))) h18 ?_
              refine k_iload_n dX8_worth_94 3 rfl rfl ?_
              refine k_aload_n dX8_worth_95 0 rfl rfl (by decide) ?_
              refine k_get (kf := 17) (v := .ref 131) dX8_worth_96 kcX8 w_1764 (by decide) (by decide) (s_123 hsh) rfl rfl ?_
              refine k_iload dX8_worth_99 4 rfl ?_
              refine k_iald dX8_worth_101 (by decide) (s_131 hsh) (by omega) (by omega) (by decide) ?_
              have q19 := hA ((i7 : Int)).toNat
              refine k_ishr (v := (iI (z_shr (x7.1) ((σ 131) ((i7 : Int)).toNat)))) dX8_worth_102 (zz_shrI (by omega) (by omega) (by omega) (by omega)) ?_
              have q20 := z_shr_nn (x7.1) ((σ 131) ((i7 : Int)).toNat)
              have q21 := z_shr_le (x7.1) ((σ 131) ((i7 : Int)).toNat) (by omega)
              refine k_iconst (v := 1) dX8_worth_103 rfl ?_
              refine k_iand (v := (iI (z_and (z_shr (x7.1) ((σ 131) ((i7 : Int)).toNat)) (1)))) dX8_worth_104 (z_andI (z_shr_nn _ _) (by omega)) ?_
              have q22 := z_and_nn (z_shr (x7.1) ((σ 131) ((i7 : Int)).toNat)) (1)
              have q23 := z_and_le (z_shr (x7.1) ((σ 131) ((i7 : Int)).toNat)) (1) (z_shr_nn _ _)
              have q24 := z_and_le2 (z_shr (x7.1) ((σ 131) ((i7 : Int)).toNat)) (1) (by decide)
              refine k_iconst (v := 1) dX8_worth_105 rfl ?_
              refine k_icmp_eq (tgt := 126) dX8_worth_106 rfl ⟨by omega, by omega⟩ ⟨by decide, by decide⟩ (fun h25 => ?_) (fun h25 => ?_)
              · refine k_ift (F := (fun t => (k_pV sh σ (R_worth)) (k_els (r_worth_7 (σ 124) (σ 131) p) (k_cn2 (k_for (b_worth_7 (σ 124) (σ 131) p) n7 (i7 + 1)) t)))) h25 ?_
                refine k_iconst (v := (-1)) dX8_worth_126 rfl ?_
                exact k_retiP dX8_worth_127 rfl rfl rfl (show -1 ≤ (-1 : Int) ∧ (-1 : Int) ≤ 100 from by omega)
              · refine k_iff (F := (fun t => (k_pV sh σ (R_worth)) (k_els (r_worth_7 (σ 124) (σ 131) p) (k_cn2 (k_for (b_worth_7 (σ 124) (σ 131) p) n7 (i7 + 1)) t)))) h25 ?_
                refine k_aload_n dX8_worth_109 0 rfl rfl (by decide) ?_
                refine k_iload dX8_worth_110 5 rfl ?_
                refine k_aload_n dX8_worth_112 0 rfl rfl (by decide) ?_
                refine k_get (kf := 17) (v := .ref 131) dX8_worth_113 kcX8 w_1764 (by decide) (by decide) (s_123 hsh) rfl rfl ?_
                refine k_iload dX8_worth_116 4 rfl ?_
                refine k_iald dX8_worth_118 (by decide) (s_131 hsh) (by omega) (by omega) (by decide) ?_
                have q26 := hA ((i7 : Int)).toNat
                refine k_iload_n dX8_worth_119 1 rfl rfl ?_
                refine k_callVrP (st := []) (as := [.int (iI ((σ 124) (57 + 3 * p + (i7 : Int)).toNat)), .int (iI ((σ 131) ((i7 : Int)).toNat)), .int (iI (p))]) dX8_worth_120 oX8_hasRoom w_2056 w_2058 w_58 rfl (by omega) rfl (Nat.le_of_ble_eq_true rfl) (by decide) (s_123 hsh) rfl (c8_hasRoom hsh hM (by omega) (by omega) (by omega)) (fun z27 => ?_)
                refine k_if_ne (tgt := 128) dX8_worth_123 rfl (zb_kr _) (fun h28 => ?_) (fun h28 => ?_)
                · have h28 := zb_n0.mp h28
                  refine k_ift (F := (fun t => (k_pV sh σ (R_worth)) (k_els (r_worth_7 (σ 124) (σ 131) p) (k_cn2 (k_for (b_worth_7 (σ 124) (σ 131) p) n7 (i7 + 1)) t)))) h28 ?_
                  refine k_iload_n dX8_worth_128 3 rfl rfl ?_
                  refine k_iconst (v := 1) dX8_worth_129 rfl ?_
                  refine k_aload_n dX8_worth_130 0 rfl rfl (by decide) ?_
                  refine k_get (kf := 17) (v := .ref 131) dX8_worth_131 kcX8 w_1764 (by decide) (by decide) (s_123 hsh) rfl rfl ?_
                  refine k_iload dX8_worth_134 4 rfl ?_
                  refine k_iald dX8_worth_136 (by decide) (s_131 hsh) (by omega) (by omega) (by decide) ?_
                  have q29 := hA ((i7 : Int)).toNat
                  refine k_ishl (v := (iI (z_one ((σ 131) ((i7 : Int)).toNat)))) dX8_worth_137 (z_oneI (by omega) (by omega)) ?_
                  have q30 := z_one_pos ((σ 131) ((i7 : Int)).toNat)
                  have q31 : z_one ((σ 131) ((i7 : Int)).toNat) < 2147483648 := z_one_lt 31 (show ((σ 131) ((i7 : Int)).toNat) < 31 by omega) (by omega)
                  refine k_ior (v := (iI (z_or (x7.1) (z_one ((σ 131) ((i7 : Int)).toNat))))) dX8_worth_138 (z_orI (by omega) (Int.le_of_lt (z_one_pos _))) ?_
                  have q32 := z_or_nn (x7.1) (z_one ((σ 131) ((i7 : Int)).toNat))
                  refine k_istore_n (ls' := [(0, .ref 123), (1, .int (iI (p))), (2, .int (iI (x7.2))), (3, .int (iI (z_or (x7.1) (z_one ((σ 131) ((i7 : Int)).toNat))))), (4, .int (iI ((i7 : Int)))), (5, .int (iI ((σ 124) (57 + 3 * p + (i7 : Int)).toNat)))]) dX8_worth_139 rfl (by decide) rfl rfl ?_
                  refine k_iload_n dX8_worth_140 2 rfl rfl ?_
                  refine k_iload dX8_worth_141 4 rfl ?_
                  refine k_iconst (v := 3) dX8_worth_143 rfl ?_
                  refine k_icmp_ne (tgt := 151) dX8_worth_144 rfl ⟨by omega, by omega⟩ ⟨by decide, by decide⟩ (fun h33 => ?_) (fun h33 => ?_)
                  · refine k_iff (F := (fun t => (k_pV sh σ (R_worth)) (k_els (r_worth_7 (σ 124) (σ 131) p) (k_cn2 (k_for (b_worth_7 (σ 124) (σ 131) p) n7 (i7 + 1)) t)))) h33 ?_
                    refine k_bipush (v := 8) dX8_worth_151 (by decide) ?_
                    refine k_iload dX8_worth_153 4 rfl ?_
                    refine k_ishr (v := (iI (z_shr (8) ((i7 : Int))))) dX8_worth_155 (zz_shrI (by omega) (by omega) (by omega) (by omega)) ?_
                    have q34 := z_shr_nn (8) ((i7 : Int))
                    have q35 := z_shr_le (8) ((i7 : Int)) (by omega)
                    refine k_iadd dX8_worth_156 ?_
                    refine k_istore_n (ls' := [(0, .ref 123), (1, .int (iI (p))), (2, .int (iI ((x7.2) + (z_shr (8) ((i7 : Int)))))), (3, .int (iI (z_or (x7.1) (z_one ((σ 131) ((i7 : Int)).toNat))))), (4, .int (iI ((i7 : Int)))), (5, .int (iI ((σ 124) (57 + 3 * p + (i7 : Int)).toNat)))]) dX8_worth_157 rfl (by decide) rfl rfl ?_
                    refine k_iinc (ls' := [(0, .ref 123), (1, .int (iI (p))), (2, .int (iI ((x7.2) + (z_shr (8) ((i7 : Int)))))), (3, .int (iI (z_or (x7.1) (z_one ((σ 131) ((i7 : Int)).toNat))))), (4, .int (iI ((i7 : Int) + 1))), (5, .int (iI ((σ 124) (57 + 3 * p + (i7 : Int)).toNat)))]) dX8_worth_158 4 rfl (by decide) rfl rfl ?_
                    refine k_goto (tgt := 7) dX8_worth_161 rfl ?_
                    refine k_dropr (ls' := [(0, .ref 123), (1, .int (iI (p))), (2, .int (iI ((x7.2) + (z_shr (8) ((i7 : Int)))))), (3, .int (iI (z_or (x7.1) (z_one ((σ 131) ((i7 : Int)).toNat))))), (4, .int (iI ((i7 : Int) + 1)))]) (ex := [(5, .int (iI ((σ 124) (57 + 3 * p + (i7 : Int)).toNat)))]) rfl ?_
                    have y36 : z_or (x7.1) (z_one ((σ 131) ((i7 : Int)).toNat)) < 16 := z_or_lt 4 (show x7.1 < 16 by omega) (z_one_lt 4 (show (σ 131) ((i7 : Int)).toNat < 4 by omega) (by omega))
                    exact ih7 ((z_or (x7.1) (z_one ((σ 131) ((i7 : Int)).toNat)), (x7.2) + (z_shr (8) ((i7 : Int))))) (show (0 ≤ z_or (x7.1) (z_one ((σ 131) ((i7 : Int)).toNat)) ∧ z_or (x7.1) (z_one ((σ 131) ((i7 : Int)).toNat)) < 16) ∧ 0 ≤ (x7.2) + (z_shr (8) ((i7 : Int))) ∧ (x7.2) + (z_shr (8) ((i7 : Int))) ≤ 8 * ((i7 + 1 : Nat) : Int) from by omega)
                  · refine k_ift (F := (fun t => (k_pV sh σ (R_worth)) (k_els (r_worth_7 (σ 124) (σ 131) p) (k_cn2 (k_for (b_worth_7 (σ 124) (σ 131) p) n7 (i7 + 1)) t)))) h33 ?_
                    refine k_iconst (v := 1) dX8_worth_147 rfl ?_
                    refine k_goto (tgt := 156) dX8_worth_148 rfl ?_
                    refine k_iadd dX8_worth_156 ?_
                    refine k_istore_n (ls' := [(0, .ref 123), (1, .int (iI (p))), (2, .int (iI ((x7.2) + 1))), (3, .int (iI (z_or (x7.1) (z_one ((σ 131) ((i7 : Int)).toNat))))), (4, .int (iI ((i7 : Int)))), (5, .int (iI ((σ 124) (57 + 3 * p + (i7 : Int)).toNat)))]) dX8_worth_157 rfl (by decide) rfl rfl ?_
                    refine k_iinc (ls' := [(0, .ref 123), (1, .int (iI (p))), (2, .int (iI ((x7.2) + 1))), (3, .int (iI (z_or (x7.1) (z_one ((σ 131) ((i7 : Int)).toNat))))), (4, .int (iI ((i7 : Int) + 1))), (5, .int (iI ((σ 124) (57 + 3 * p + (i7 : Int)).toNat)))]) dX8_worth_158 4 rfl (by decide) rfl rfl ?_
                    refine k_goto (tgt := 7) dX8_worth_161 rfl ?_
                    refine k_dropr (ls' := [(0, .ref 123), (1, .int (iI (p))), (2, .int (iI ((x7.2) + 1))), (3, .int (iI (z_or (x7.1) (z_one ((σ 131) ((i7 : Int)).toNat))))), (4, .int (iI ((i7 : Int) + 1)))]) (ex := [(5, .int (iI ((σ 124) (57 + 3 * p + (i7 : Int)).toNat)))]) rfl ?_
                    have y37 : z_or (x7.1) (z_one ((σ 131) ((i7 : Int)).toNat)) < 16 := z_or_lt 4 (show x7.1 < 16 by omega) (z_one_lt 4 (show (σ 131) ((i7 : Int)).toNat < 4 by omega) (by omega))
                    exact ih7 ((z_or (x7.1) (z_one ((σ 131) ((i7 : Int)).toNat)), (x7.2) + 1)) (show (0 ≤ z_or (x7.1) (z_one ((σ 131) ((i7 : Int)).toNat)) ∧ z_or (x7.1) (z_one ((σ 131) ((i7 : Int)).toNat)) < 16) ∧ 0 ≤ (x7.2) + 1 ∧ (x7.2) + 1 ≤ 8 * ((i7 + 1 : Nat) : Int) from by omega)
                · have h28 := zb_0.mp h28
                  refine k_iff (F := (fun t => (k_pV sh σ (R_worth)) (k_els (r_worth_7 (σ 124) (σ 131) p) (k_cn2 (k_for (b_worth_7 (σ 124) (σ 131) p) n7 (i7 + 1)) t)))) h28 ?_
                  refine k_iconst (v := (-1)) dX8_worth_126 rfl ?_
                  exact k_retiP dX8_worth_127 rfl rfl rfl (show -1 ≤ (-1 : Int) ∧ (-1 : Int) ≤ 100 from by omega)
      · refine k_ift (F := (fun t => (k_pV sh σ (R_worth)) (k_els (r_worth_7 (σ 124) (σ 131) p) (k_cn2 (k_for (b_worth_7 (σ 124) (σ 131) p) n7 (i7 + 1)) t)))) h10 ?_
        refine k_aload_n dX8_worth_33 0 rfl rfl (by decide) ?_
        refine k_get (kf := 0) (v := .ref 124) dX8_worth_34 kcX8 w_1747 (by decide) (by decide) (s_123 hsh) rfl rfl ?_
        refine k_bipush (v := 93) dX8_worth_37 (by decide) ?_
        refine k_iload_n dX8_worth_39 1 rfl rfl ?_
        refine k_iadd dX8_worth_40 ?_
        refine k_iald dX8_worth_41 (by decide) (s_124 hsh) (by omega) (by omega) (by decide) ?_
        have q38 := k_Mo_res hM (x := 93 + p) (by omega) (by omega)
        refine k_goto (tgt := 70) dX8_worth_42 rfl ?_
        refine k_istore (ls' := [(0, .ref 123), (1, .int (iI (p))), (2, .int (iI (x7.2))), (3, .int (iI (x7.1))), (4, .int (iI ((i7 : Int)))), (5, .int (iI ((σ 124) (93 + p).toNat)))]) dX8_worth_70 (by decide) rfl rfl ?_
        refine k_iload dX8_worth_72 5 rfl ?_
        refine k_iconst (v := (-1)) dX8_worth_74 rfl ?_
        refine k_icmp_eq (tgt := 126) dX8_worth_75 rfl ⟨by omega, by omega⟩ ⟨by decide, by decide⟩ (fun h39 => ?_) (fun h39 => ?_)
        · refine k_ift (F := (fun t => (k_pV sh σ (R_worth)) (k_els (r_worth_7 (σ 124) (σ 131) p) (k_cn2 (k_for (b_worth_7 (σ 124) (σ 131) p) n7 (i7 + 1)) t)))) h39 ?_
          refine k_iconst (v := (-1)) dX8_worth_126 rfl ?_
          exact k_retiP dX8_worth_127 rfl rfl rfl (show -1 ≤ (-1 : Int) ∧ (-1 : Int) ≤ 100 from by omega)
        · refine k_iff (F := (fun t => (k_pV sh σ (R_worth)) (k_els (r_worth_7 (σ 124) (σ 131) p) (k_cn2 (k_for (b_worth_7 (σ 124) (σ 131) p) n7 (i7 + 1)) t)))) h39 ?_
          refine k_aload_n dX8_worth_78 0 rfl rfl (by decide) ?_
          refine k_get (kf := 17) (v := .ref 131) dX8_worth_79 kcX8 w_1764 (by decide) (by decide) (s_123 hsh) rfl rfl ?_
          refine k_iload dX8_worth_82 4 rfl ?_
          refine k_iald dX8_worth_84 (by decide) (s_131 hsh) (by omega) (by omega) (by decide) ?_
          have q40 := hA ((i7 : Int)).toNat
          refine k_aload_n dX8_worth_85 0 rfl rfl (by decide) ?_
          refine k_get (kf := 0) (v := .ref 124) dX8_worth_86 kcX8 w_1747 (by decide) (by decide) (s_123 hsh) rfl rfl ?_
          refine k_iconst (v := 1) dX8_worth_89 rfl ?_
          refine k_iald dX8_worth_90 (by decide) (s_124 hsh) (by omega) (by omega) (by decide) ?_
          refine k_eqst (st' := [.int (iI ((σ 124) 1)), .int (iI ((σ 131) ((i7 : Int)).toNat))]) rfl ?_
          refine k_icmp_ge (tgt := 126) dX8_worth_91 rfl ⟨by omega, by omega⟩ ⟨by omega, by omega⟩ (fun h41 => ?_) (fun h41 => ?_)
          · refine k_iff (F := (fun t => (k_pV sh σ (R_worth)) (k_els (r_worth_7 (σ 124) (σ 131) p) (k_cn2 (k_for (b_worth_7 (σ 124) (σ 131) p) n7 (i7 + 1)) t)))) (Int.not_lt.mpr h41) ?_
            refine k_iconst (v := (-1)) dX8_worth_126 rfl ?_
            exact k_retiP dX8_worth_127 rfl rfl rfl (show -1 ≤ (-1 : Int) ∧ (-1 : Int) ≤ 100 from by omega)
          · refine k_ift (F := (fun t => (k_pV sh σ (R_worth)) (k_els (r_worth_7 (σ 124) (σ 131) p) (k_cn2 (k_for (b_worth_7 (σ 124) (σ 131) p) n7 (i7 + 1)) t)))) h41 ?_
            refine k_iload_n dX8_worth_94 3 rfl rfl ?_
            refine k_aload_n dX8_worth_95 0 rfl rfl (by decide) ?_
            refine k_get (kf := 17) (v := .ref 131) dX8_worth_96 kcX8 w_1764 (by decide) (by decide) (s_123 hsh) rfl rfl ?_
            refine k_iload dX8_worth_99 4 rfl ?_
            refine k_iald dX8_worth_101 (by decide) (s_131 hsh) (by omega) (by omega) (by decide) ?_
            have q42 := hA ((i7 : Int)).toNat
            refine k_ishr (v := (iI (z_shr (x7.1) ((σ 131) ((i7 : Int)).toNat)))) dX8_worth_102 (zz_shrI (by omega) (by omega) (by omega) (by omega)) ?_
            have q43 := z_shr_nn (x7.1) ((σ 131) ((i7 : Int)).toNat)
            have q44 := z_shr_le (x7.1) ((σ 131) ((i7 : Int)).toNat) (by omega)
            refine k_iconst (v := 1) dX8_worth_103 rfl ?_
            refine k_iand (v := (iI (z_and (z_shr (x7.1) ((σ 131) ((i7 : Int)).toNat)) (1)))) dX8_worth_104 (z_andI (z_shr_nn _ _) (by omega)) ?_
            have q45 := z_and_nn (z_shr (x7.1) ((σ 131) ((i7 : Int)).toNat)) (1)
            have q46 := z_and_le (z_shr (x7.1) ((σ 131) ((i7 : Int)).toNat)) (1) (z_shr_nn _ _)
            have q47 := z_and_le2 (z_shr (x7.1) ((σ 131) ((i7 : Int)).toNat)) (1) (by decide)
            refine k_iconst (v := 1) dX8_worth_105 rfl ?_
            refine k_icmp_eq (tgt := 126) dX8_worth_106 rfl ⟨by omega, by omega⟩ ⟨by decide, by decide⟩ (fun h48 => ?_) (fun h48 => ?_)
            · refine k_ift (F := (fun t => (k_pV sh σ (R_worth)) (k_els (r_worth_7 (σ 124) (σ 131) p) (k_cn2 (k_for (b_worth_7 (σ 124) (σ 131) p) n7 (i7 + 1)) t)))) h48 ?_
              refine k_iconst (v := (-1)) dX8_worth_126 rfl ?_
              exact k_retiP dX8_worth_127 rfl rfl rfl (show -1 ≤ (-1 : Int) ∧ (-1 : Int) ≤ 100 from by omega)
            · refine k_iff (F := (fun t => (k_pV sh σ (R_worth)) (k_els (r_worth_7 (σ 124) (σ 131) p) (k_cn2 (k_for (b_worth_7 (σ 124) (σ 131) p) n7 (i7 + 1)) t)))) h48 ?_
              refine k_aload_n dX8_worth_109 0 rfl rfl (by decide) ?_
              refine k_iload dX8_worth_110 5 rfl ?_
              refine k_aload_n dX8_worth_112 0 rfl rfl (by decide) ?_
              refine k_get (kf := 17) (v := .ref 131) dX8_worth_113 kcX8 w_1764 (by decide) (by decide) (s_123 hsh) rfl rfl ?_
              refine k_iload dX8_worth_116 4 rfl ?_
              refine k_iald dX8_worth_118 (by decide) (s_131 hsh) (by omega) (by omega) (by decide) ?_
              have q49 := hA ((i7 : Int)).toNat
              refine k_iload_n dX8_worth_119 1 rfl rfl ?_
              refine k_callVrP (st := []) (as := [.int (iI ((σ 124) (93 + p).toNat)), .int (iI ((σ 131) ((i7 : Int)).toNat)), .int (iI (p))]) dX8_worth_120 oX8_hasRoom w_2056 w_2058 w_58 rfl (by omega) rfl (Nat.le_of_ble_eq_true rfl) (by decide) (s_123 hsh) rfl (c8_hasRoom hsh hM (by omega) (by omega) (by omega)) (fun z50 => ?_)
              refine k_if_ne (tgt := 128) dX8_worth_123 rfl (zb_kr _) (fun h51 => ?_) (fun h51 => ?_)
              · have h51 := zb_n0.mp h51
                refine k_ift (F := (fun t => (k_pV sh σ (R_worth)) (k_els (r_worth_7 (σ 124) (σ 131) p) (k_cn2 (k_for (b_worth_7 (σ 124) (σ 131) p) n7 (i7 + 1)) t)))) h51 ?_
                refine k_iload_n dX8_worth_128 3 rfl rfl ?_
                refine k_iconst (v := 1) dX8_worth_129 rfl ?_
                refine k_aload_n dX8_worth_130 0 rfl rfl (by decide) ?_
                refine k_get (kf := 17) (v := .ref 131) dX8_worth_131 kcX8 w_1764 (by decide) (by decide) (s_123 hsh) rfl rfl ?_
                refine k_iload dX8_worth_134 4 rfl ?_
                refine k_iald dX8_worth_136 (by decide) (s_131 hsh) (by omega) (by omega) (by decide) ?_
                have q52 := hA ((i7 : Int)).toNat
                refine k_ishl (v := (iI (z_one ((σ 131) ((i7 : Int)).toNat)))) dX8_worth_137 (z_oneI (by omega) (by omega)) ?_
                have q53 := z_one_pos ((σ 131) ((i7 : Int)).toNat)
                have q54 : z_one ((σ 131) ((i7 : Int)).toNat) < 2147483648 := z_one_lt 31 (show ((σ 131) ((i7 : Int)).toNat) < 31 by omega) (by omega)
                refine k_ior (v := (iI (z_or (x7.1) (z_one ((σ 131) ((i7 : Int)).toNat))))) dX8_worth_138 (z_orI (by omega) (Int.le_of_lt (z_one_pos _))) ?_
                have q55 := z_or_nn (x7.1) (z_one ((σ 131) ((i7 : Int)).toNat))
                refine k_istore_n (ls' := [(0, .ref 123), (1, .int (iI (p))), (2, .int (iI (x7.2))), (3, .int (iI (z_or (x7.1) (z_one ((σ 131) ((i7 : Int)).toNat))))), (4, .int (iI ((i7 : Int)))), (5, .int (iI ((σ 124) (93 + p).toNat)))]) dX8_worth_139 rfl (by decide) rfl rfl ?_
                refine k_iload_n dX8_worth_140 2 rfl rfl ?_
                refine k_iload dX8_worth_141 4 rfl ?_
                refine k_iconst (v := 3) dX8_worth_143 rfl ?_
                refine k_icmp_ne (tgt := 151) dX8_worth_144 rfl ⟨by omega, by omega⟩ ⟨by decide, by decide⟩ (fun h56 => ?_) (fun h56 => ?_)
                · refine k_iff (F := (fun t => (k_pV sh σ (R_worth)) (k_els (r_worth_7 (σ 124) (σ 131) p) (k_cn2 (k_for (b_worth_7 (σ 124) (σ 131) p) n7 (i7 + 1)) t)))) h56 ?_
                  refine k_bipush (v := 8) dX8_worth_151 (by decide) ?_
                  refine k_iload dX8_worth_153 4 rfl ?_
                  refine k_ishr (v := (iI (z_shr (8) ((i7 : Int))))) dX8_worth_155 (zz_shrI (by omega) (by omega) (by omega) (by omega)) ?_
                  have q57 := z_shr_nn (8) ((i7 : Int))
                  have q58 := z_shr_le (8) ((i7 : Int)) (by omega)
                  refine k_iadd dX8_worth_156 ?_
                  refine k_istore_n (ls' := [(0, .ref 123), (1, .int (iI (p))), (2, .int (iI ((x7.2) + (z_shr (8) ((i7 : Int)))))), (3, .int (iI (z_or (x7.1) (z_one ((σ 131) ((i7 : Int)).toNat))))), (4, .int (iI ((i7 : Int)))), (5, .int (iI ((σ 124) (93 + p).toNat)))]) dX8_worth_157 rfl (by decide) rfl rfl ?_
                  refine k_iinc (ls' := [(0, .ref 123), (1, .int (iI (p))), (2, .int (iI ((x7.2) + (z_shr (8) ((i7 : Int)))))), (3, .int (iI (z_or (x7.1) (z_one ((σ 131) ((i7 : Int)).toNat))))), (4, .int (iI ((i7 : Int) + 1))), (5, .int (iI ((σ 124) (93 + p).toNat)))]) dX8_worth_158 4 rfl (by decide) rfl rfl ?_
                  refine k_goto (tgt := 7) dX8_worth_161 rfl ?_
                  refine k_dropr (ls' := [(0, .ref 123), (1, .int (iI (p))), (2, .int (iI ((x7.2) + (z_shr (8) ((i7 : Int)))))), (3, .int (iI (z_or (x7.1) (z_one ((σ 131) ((i7 : Int)).toNat))))), (4, .int (iI ((i7 : Int) + 1)))]) (ex := [(5, .int (iI ((σ 124) (93 + p).toNat)))]) rfl ?_
                  have y59 : z_or (x7.1) (z_one ((σ 131) ((i7 : Int)).toNat)) < 16 := z_or_lt 4 (show x7.1 < 16 by omega) (z_one_lt 4 (show (σ 131) ((i7 : Int)).toNat < 4 by omega) (by omega))
                  exact ih7 ((z_or (x7.1) (z_one ((σ 131) ((i7 : Int)).toNat)), (x7.2) + (z_shr (8) ((i7 : Int))))) (show (0 ≤ z_or (x7.1) (z_one ((σ 131) ((i7 : Int)).toNat)) ∧ z_or (x7.1) (z_one ((σ 131) ((i7 : Int)).toNat)) < 16) ∧ 0 ≤ (x7.2) + (z_shr (8) ((i7 : Int))) ∧ (x7.2) + (z_shr (8) ((i7 : Int))) ≤ 8 * ((i7 + 1 : Nat) : Int) from by omega)
                · refine k_ift (F := (fun t => (k_pV sh σ (R_worth)) (k_els (r_worth_7 (σ 124) (σ 131) p) (k_cn2 (k_for (b_worth_7 (σ 124) (σ 131) p) n7 (i7 + 1)) t)))) h56 ?_
                  refine k_iconst (v := 1) dX8_worth_147 rfl ?_
                  refine k_goto (tgt := 156) dX8_worth_148 rfl ?_
                  refine k_iadd dX8_worth_156 ?_
                  refine k_istore_n (ls' := [(0, .ref 123), (1, .int (iI (p))), (2, .int (iI ((x7.2) + 1))), (3, .int (iI (z_or (x7.1) (z_one ((σ 131) ((i7 : Int)).toNat))))), (4, .int (iI ((i7 : Int)))), (5, .int (iI ((σ 124) (93 + p).toNat)))]) dX8_worth_157 rfl (by decide) rfl rfl ?_
                  refine k_iinc (ls' := [(0, .ref 123), (1, .int (iI (p))), (2, .int (iI ((x7.2) + 1))), (3, .int (iI (z_or (x7.1) (z_one ((σ 131) ((i7 : Int)).toNat))))), (4, .int (iI ((i7 : Int) + 1))), (5, .int (iI ((σ 124) (93 + p).toNat)))]) dX8_worth_158 4 rfl (by decide) rfl rfl ?_
                  refine k_goto (tgt := 7) dX8_worth_161 rfl ?_
                  refine k_dropr (ls' := [(0, .ref 123), (1, .int (iI (p))), (2, .int (iI ((x7.2) + 1))), (3, .int (iI (z_or (x7.1) (z_one ((σ 131) ((i7 : Int)).toNat))))), (4, .int (iI ((i7 : Int) + 1)))]) (ex := [(5, .int (iI ((σ 124) (93 + p).toNat)))]) rfl ?_
                  have y60 : z_or (x7.1) (z_one ((σ 131) ((i7 : Int)).toNat)) < 16 := z_or_lt 4 (show x7.1 < 16 by omega) (z_one_lt 4 (show (σ 131) ((i7 : Int)).toNat < 4 by omega) (by omega))
                  exact ih7 ((z_or (x7.1) (z_one ((σ 131) ((i7 : Int)).toNat)), (x7.2) + 1)) (show (0 ≤ z_or (x7.1) (z_one ((σ 131) ((i7 : Int)).toNat)) ∧ z_or (x7.1) (z_one ((σ 131) ((i7 : Int)).toNat)) < 16) ∧ 0 ≤ (x7.2) + 1 ∧ (x7.2) + 1 ≤ 8 * ((i7 + 1 : Nat) : Int) from by omega)
              · have h51 := zb_0.mp h51
                refine k_iff (F := (fun t => (k_pV sh σ (R_worth)) (k_els (r_worth_7 (σ 124) (σ 131) p) (k_cn2 (k_for (b_worth_7 (σ 124) (σ 131) p) n7 (i7 + 1)) t)))) h51 ?_
                refine k_iconst (v := (-1)) dX8_worth_126 rfl ?_
                exact k_retiP dX8_worth_127 rfl rfl rfl (show -1 ≤ (-1 : Int) ∧ (-1 : Int) ≤ 100 from by omega)
    · refine k_ift (F := (fun t => (k_pV sh σ (R_worth)) (k_els (r_worth_7 (σ 124) (σ 131) p) (k_cn2 (k_for (b_worth_7 (σ 124) (σ 131) p) n7 (i7 + 1)) t)))) h9 ?_
      refine k_goto (tgt := 158) dX8_worth_24 rfl ?_
      refine k_iinc (ls' := [(0, .ref 123), (1, .int (iI (p))), (2, .int (iI (x7.2))), (3, .int (iI (x7.1))), (4, .int (iI ((i7 : Int) + 1)))]) dX8_worth_158 4 rfl (by decide) rfl rfl ?_
      refine k_goto (tgt := 7) dX8_worth_161 rfl ?_
      exact ih7 ((x7.1, x7.2)) (show (0 ≤ x7.1 ∧ x7.1 < 16) ∧ 0 ≤ x7.2 ∧ x7.2 ≤ 8 * ((i7 + 1 : Nat) : Int) from by omega)
end K_M1
