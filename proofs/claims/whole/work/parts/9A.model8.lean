/-! ===== THE MODEL: enrolAll ===== -/
section K_M8
variable {E : k_E} {M : k_M} {dp pc k n : Nat} {ls : List (Nat × Value)} {st : List Value} {sh : List k_Sh} {σ τ : Nat → Nat → Int} {r : Nat → Int} {Q : k_Q}
theorem m_fp_132 (h1 : k_rg 0 4 (σ 131)) (h2 : k_rg 0 4 (σ 132)) (p : Int) : k_rg 0 4 (m_findsPlacement σ p 132) := by
  have hu : ∀ (f : Nat → Int) (k : Nat) (v : Int), k_rg 0 4 f → 0 ≤ v ∧ v ≤ 4 → k_rg 0 4 (k_u1 f k v) := fun f k v hf hv j => by
    unfold k_u1
    split
    · exact hv
    · exact hf j
  have h := k_it_inv (f := b_findsPlacement_7 σ p) (J := fun _ (x : (Nat → Int) × (Nat → Int) × (Nat → Int)) => k_rg 0 4 x.2.1 ∧ k_rg 0 4 x.2.2) (fun i x hx => by
    have hi := k_it_inv (f := b_findsPlacement_19 σ p i x) (J := fun _ (y : Int × (Nat → Int)) => k_rg 0 4 y.2) (fun j y hy => hu y.2 _ _ hy (by omega)) 4 0 ((i : Int), x.2.1) hx.1
    unfold b_findsPlacement_7
    generalize k_it (b_findsPlacement_19 σ p i x) 4 0 ((i : Int), x.2.1) = y at hi ⊢
    unfold r_findsPlacement_19
    split
    · exact ⟨hi, hx.2⟩
    · have hk := k_it_inv (f := b_findsPlacement_72 σ p i x y) (J := fun _ (z : Nat → Int) => k_rg 0 4 z) (fun j z hz => hu z _ _ hz (hi _)) 4 0 x.2.2 hx.2
      exact ⟨hi, hk⟩) 625 0 (k_u1 (σ 123) 19 (-1), σ 131, σ 132) ⟨h1, h2⟩
  exact h.2
theorem m_enrolNow_105 (hMA : k_MA σ) {p : Int} (hp : 0 ≤ p) (j : Nat) (hj : j < 105) : (m_enrolNow σ p).2 124 j = σ 124 j := by
  have h4 := m_fp_132 (σ := σ) hMA.2.2.2.2.1 hMA.2.2.2.2.2.1 p
  unfold m_enrolNow
  (repeat' split)
  · rfl
  · have h := k_it_inv (f := b_enrolNow_47 σ p) (J := fun _ (x : Nat → Int) => x j = σ 124 j) (fun i x hx => by
      unfold b_enrolNow_47
      have := h4 ((i : Int)).toNat
      (repeat' split)
      · exact (if_neg (by omega)).trans hx
      · exact (if_neg (by omega)).trans hx
      · exact hx) 4 0 (m_findsPlacement σ p 124) rfl
    generalize k_it (b_enrolNow_47 σ p) 4 0 (m_findsPlacement σ p 124) = y at h ⊢
    unfold r_enrolNow_47
    dsimp only
    rw [k_up_same]
    exact h
  · rfl
  · rfl
abbrev R_enrolAll (t : Int × (Nat → Nat → Int)) : Prop := (-1 ≤ t.1 ∧ t.1 ≤ 1000) ∧ k_MA t.2
def r_enrolAll_8 (σ : Nat → Nat → Int) (x8 : Int × (Nat → Nat → Int)) : Int × (Nat → Nat → Int) := ((m_ends x8.2 (x8.1) 0 0).1, (m_ends x8.2 (x8.1) 0 0).2)
def b_enrolAll_8 (σ : Nat → Nat → Int) (i8 : Nat) (x8 : Int × (Nat → Nat → Int)) : Int × (Nat → Nat → Int) := if ((x8.2 124) (45 + ((i8 : Int))).toNat) = 0 then (x8.1, x8.2) else if (m_classesOf (x8.2 124) (i8 : Int)) ≤ 0 then if m_isServed ((m_enrolNow x8.2 (i8 : Int)).2 124) (i8 : Int) = true then ((x8.1) + 1, (m_enrolNow x8.2 (i8 : Int)).2) else ((x8.1) + 0, (m_enrolNow x8.2 (i8 : Int)).2) else (x8.1, x8.2)
def m_enrolAll (σ : Nat → Nat → Int) : Int × (Nat → Nat → Int) := (r_enrolAll_8 σ) (k_it (b_enrolAll_8 σ) (((σ 124) 2).toNat) 0 ((0, (k_up (k_up σ 123 (k_u1 (σ 123) 8 (0))) 125 (σ 124)))))
set_option maxRecDepth 100000 in
set_option maxHeartbeats 4000000 in
theorem c8_enrolAll (hsh : k_Main sh) (hMA : k_MA σ)  : k_C E mX8_enrolAll 8 [.ref 123] sh σ 0 0 ((k_pP sh (R_enrolAll)) (m_enrolAll σ)) := by
  refine k_C_of (ls0 := [(0, .ref 123)]) rfl pnX8 (fun v hv => k_cat1 rfl hv) (Nat.le_of_ble_eq_true rfl) rfl ?_
  obtain ⟨⟨t0, t0b⟩, ⟨t1, t1b⟩, ⟨t2, t2b⟩, ⟨t3, t3b⟩, -⟩ := id hMA.2.1
  obtain ⟨⟨f23_0, g23_0⟩, ⟨f23_1, g23_1⟩, ⟨f23_2, g23_2⟩, ⟨f23_3, g23_3⟩, ⟨f23_4, g23_4⟩, ⟨f23_5, g23_5⟩, ⟨f23_6, g23_6⟩, ⟨f23_7, g23_7⟩, ⟨f23_8, g23_8⟩, ⟨f23_9, g23_9⟩, ⟨f23_10, g23_10⟩, ⟨f23_11, g23_11⟩, ⟨f23_12, g23_12⟩, ⟨f23_13, g23_13⟩⟩ := id hMA.1
  unfold m_enrolAll
  refine k_aload_n dX8_enrolAll_0 0 rfl rfl (by decide) ?_
  refine k_callVr (st := []) (as := []) dX8_enrolAll_1 oX8_begins w_1873 w_1875 w_33 rfl (by omega) rfl (Nat.le_of_ble_eq_true rfl) (by decide) (s_123 hsh) rfl (c8_begins hsh) ?_
  refine k_eqσ (σ' := (k_up (k_up σ 123 (k_u1 (σ 123) 8 (0))) 125 (σ 124))) (((congrArg (fun s => k_up s 125 (σ 124)) (show k_up σ 123 (k_u1 (σ 123) 8 (0)) = (k_up σ 123 (k_u1 (σ 123) 8 (0))) from rfl)).trans (show k_up (k_up σ 123 (k_u1 (σ 123) 8 (0))) 125 (σ 124) = (k_up (k_up σ 123 (k_u1 (σ 123) 8 (0))) 125 (σ 124)) from rfl))).symm ?_
  refine k_iconst (v := 0) dX8_enrolAll_4 rfl ?_
  refine k_istore_n (ls' := [(0, .ref 123), (1, .int (iI (0)))]) dX8_enrolAll_5 rfl (by decide) rfl rfl ?_
  refine k_iconst (v := 0) dX8_enrolAll_6 rfl ?_
  refine k_istore_n (ls' := [(0, .ref 123), (1, .int (iI (0))), (2, .int (iI (0)))]) dX8_enrolAll_7 rfl (by decide) rfl rfl ?_
  refine k_loop (α := Int × (Nat → Nat → Int)) (P := fun (i8 : Nat) (x8 : Int × (Nat → Nat → Int)) Q => k_V E mX8_enrolAll _ 8 [(0, .ref 123), (1, .int (iI (x8.1))), (2, .int (iI ((i8 : Int))))] [] sh x8.2 _ _ Q) (J := fun (i8 : Nat) (x8 : Int × (Nat → Nat → Int)) => (0 ≤ x8.1 ∧ x8.1 ≤ (i8 : Int)) ∧ (x8.2) 124 2 = (σ 124) 2 ∧ k_MA (x8.2)) (((σ 124) 2).toNat) (b_enrolAll_8 σ) ((0, (k_up (k_up σ 123 (k_u1 (σ 123) 8 (0))) 125 (σ 124)))) (F := fun t => (k_pP sh (R_enrolAll)) ((r_enrolAll_8 σ) t)) (show (0 ≤ (0 : Int) ∧ (0 : Int) ≤ ((0 : Nat) : Int)) ∧ ((k_up (k_up σ 123 (k_u1 (σ 123) 8 (0))) 125 (σ 124))) 124 2 = (σ 124) 2 ∧ k_MA ((k_up (k_up σ 123 (k_u1 (σ 123) 8 (0))) 125 (σ 124))) from ⟨by omega, rfl, ⟨(show k_F0 (k_u1 (σ 123) 8 (0)) from (k_F0_u (hMA).1 (by omega))), (hMA).2.1, (hMA).2.2.1, (hMA).2.2.2.1, (hMA).2.2.2.2.1, (hMA).2.2.2.2.2.1, (hMA).2.2.2.2.2.2.1, (hMA).2.2.2.2.2.2.2.1, (hMA).2.2.2.2.2.2.2.2.1, (hMA).2.2.2.2.2.2.2.2.2.1, (hMA).2.2.2.2.2.2.2.2.2.2.1, (hMA).2.2.2.2.2.2.2.2.2.2.2.1, (hMA).2.2.2.2.2.2.2.2.2.2.2.2⟩⟩) ?_ ?_
  · intro x8 hJ8
    have hJ8 : (0 ≤ x8.1 ∧ x8.1 ≤ ((((σ 124) 2).toNat : Nat) : Int)) ∧ (x8.2) 124 2 = (σ 124) 2 ∧ k_MA (x8.2) := hJ8
    have hU8 := hJ8
    obtain ⟨⟨f3_0, g3_0⟩, ⟨f3_1, g3_1⟩, ⟨f3_2, g3_2⟩, ⟨f3_3, g3_3⟩, ⟨f3_4, g3_4⟩, ⟨f3_5, g3_5⟩, ⟨f3_6, g3_6⟩, ⟨f3_7, g3_7⟩, ⟨f3_8, g3_8⟩, ⟨f3_9, g3_9⟩, ⟨f3_10, g3_10⟩, ⟨f3_11, g3_11⟩, ⟨f3_12, g3_12⟩, ⟨f3_13, g3_13⟩⟩ := id hU8.2.2.1
    obtain ⟨⟨y4_0, y4_0b⟩, ⟨y4_1, y4_1b⟩, ⟨y4_2, y4_2b⟩, ⟨y4_3, y4_3b⟩, -⟩ := id hU8.2.2.2.1
    show k_V E mX8_enrolAll _ 8 [(0, .ref 123), (1, .int (iI (x8.1))), (2, .int (iI (((((σ 124) 2).toNat : Nat) : Int))))] [] sh x8.2 _ _ ((k_pP sh (R_enrolAll)) ((r_enrolAll_8 σ) x8))
    unfold r_enrolAll_8
    refine k_iload_n dX8_enrolAll_8 2 rfl rfl ?_
    refine k_aload_n dX8_enrolAll_9 0 rfl rfl (by decide) ?_
    refine k_get (kf := 0) (v := .ref 124) dX8_enrolAll_10 kcX8 w_1747 (by decide) (by decide) (s_123 hsh) rfl rfl ?_
    refine k_iconst (v := 2) dX8_enrolAll_13 rfl ?_
    refine k_iald dX8_enrolAll_14 (by decide) (s_124 hsh) (by omega) (by omega) (by decide) ?_
    refine k_eqst (st' := [.int (iI ((x8.2 124) 2)), .int (iI (((((σ 124) 2).toNat : Nat) : Int)))]) rfl ?_
    refine k_icmp_ge (tgt := 69) dX8_enrolAll_15 rfl ⟨by omega, by omega⟩ ⟨by omega, by omega⟩ (fun h5 => ?_) (fun h5 => absurd h5 (by omega))
    refine k_aload_n dX8_enrolAll_69 0 rfl rfl (by decide) ?_
    refine k_iload_n dX8_enrolAll_70 1 rfl rfl ?_
    refine k_iconst (v := 0) dX8_enrolAll_71 rfl ?_
    refine k_iconst (v := 0) dX8_enrolAll_72 rfl ?_
    refine k_callVrP (st := []) (as := [.int (iI (x8.1)), .int (iI (0)), .int (iI (0))]) dX8_enrolAll_73 oX8_ends w_1888 w_1890 w_36 rfl (by omega) rfl (Nat.le_of_ble_eq_true rfl) (by decide) (s_123 hsh) rfl (c8_ends (σ := x8.2) hsh (show k_MA x8.2 from ⟨(hU8.2.2).1, (hU8.2.2).2.1, (hU8.2.2).2.2.1, (hU8.2.2).2.2.2.1, (hU8.2.2).2.2.2.2.1, (hU8.2.2).2.2.2.2.2.1, (hU8.2.2).2.2.2.2.2.2.1, (hU8.2.2).2.2.2.2.2.2.2.1, (hU8.2.2).2.2.2.2.2.2.2.2.1, (hU8.2.2).2.2.2.2.2.2.2.2.2.1, (hU8.2.2).2.2.2.2.2.2.2.2.2.2.1, (hU8.2.2).2.2.2.2.2.2.2.2.2.2.2.1, (hU8.2.2).2.2.2.2.2.2.2.2.2.2.2.2⟩) (by omega) (by omega) (by omega)) (fun z6 => ?_)
    have z6 : (-1 ≤ (m_ends x8.2 (x8.1) 0 0).1 ∧ (m_ends x8.2 (x8.1) 0 0).1 ≤ 1000) ∧ k_MA (m_ends x8.2 (x8.1) 0 0).2 := z6
    have z7 := z6.1
    obtain ⟨⟨y8_0, y8_0b⟩, ⟨y8_1, y8_1b⟩, ⟨y8_2, y8_2b⟩, ⟨y8_3, y8_3b⟩, -⟩ := id ((z6.2)).2.1
    obtain ⟨⟨f9_0, g9_0⟩, ⟨f9_1, g9_1⟩, ⟨f9_2, g9_2⟩, ⟨f9_3, g9_3⟩, ⟨f9_4, g9_4⟩, ⟨f9_5, g9_5⟩, ⟨f9_6, g9_6⟩, ⟨f9_7, g9_7⟩, ⟨f9_8, g9_8⟩, ⟨f9_9, g9_9⟩, ⟨f9_10, g9_10⟩, ⟨f9_11, g9_11⟩, ⟨f9_12, g9_12⟩, ⟨f9_13, g9_13⟩⟩ := id ((z6.2)).1
    exact k_retiP dX8_enrolAll_76 rfl rfl rfl (show (-1 ≤ (m_ends x8.2 (x8.1) 0 0).1 ∧ (m_ends x8.2 (x8.1) 0 0).1 ≤ 1000) ∧ k_MA (m_ends x8.2 (x8.1) 0 0).2 from ⟨by omega, ⟨((z6.2)).1, ((z6.2)).2.1, ((z6.2)).2.2.1, ((z6.2)).2.2.2.1, ((z6.2)).2.2.2.2.1, ((z6.2)).2.2.2.2.2.1, ((z6.2)).2.2.2.2.2.2.1, ((z6.2)).2.2.2.2.2.2.2.1, ((z6.2)).2.2.2.2.2.2.2.2.1, ((z6.2)).2.2.2.2.2.2.2.2.2.1, ((z6.2)).2.2.2.2.2.2.2.2.2.2.1, ((z6.2)).2.2.2.2.2.2.2.2.2.2.2.1, ((z6.2)).2.2.2.2.2.2.2.2.2.2.2.2⟩⟩)
  · intro n8 i8 x8 hi8 hJ8 ih8
    have hJ8 : (0 ≤ x8.1 ∧ x8.1 ≤ (i8 : Int)) ∧ (x8.2) 124 2 = (σ 124) 2 ∧ k_MA (x8.2) := hJ8
    have hU8 := hJ8
    obtain ⟨⟨f10_0, g10_0⟩, ⟨f10_1, g10_1⟩, ⟨f10_2, g10_2⟩, ⟨f10_3, g10_3⟩, ⟨f10_4, g10_4⟩, ⟨f10_5, g10_5⟩, ⟨f10_6, g10_6⟩, ⟨f10_7, g10_7⟩, ⟨f10_8, g10_8⟩, ⟨f10_9, g10_9⟩, ⟨f10_10, g10_10⟩, ⟨f10_11, g10_11⟩, ⟨f10_12, g10_12⟩, ⟨f10_13, g10_13⟩⟩ := id hU8.2.2.1
    obtain ⟨⟨y11_0, y11_0b⟩, ⟨y11_1, y11_1b⟩, ⟨y11_2, y11_2b⟩, ⟨y11_3, y11_3b⟩, -⟩ := id hU8.2.2.2.1
    show k_V E mX8_enrolAll _ 8 [(0, .ref 123), (1, .int (iI (x8.1))), (2, .int (iI ((i8 : Int))))] [] sh x8.2 _ _ ((fun t => (k_pP sh (R_enrolAll)) ((r_enrolAll_8 σ) (k_it (b_enrolAll_8 σ) n8 (i8 + 1) t))) ((b_enrolAll_8 σ) i8 x8))
    unfold b_enrolAll_8
    refine k_iload_n dX8_enrolAll_8 2 rfl rfl ?_
    refine k_aload_n dX8_enrolAll_9 0 rfl rfl (by decide) ?_
    refine k_get (kf := 0) (v := .ref 124) dX8_enrolAll_10 kcX8 w_1747 (by decide) (by decide) (s_123 hsh) rfl rfl ?_
    refine k_iconst (v := 2) dX8_enrolAll_13 rfl ?_
    refine k_iald dX8_enrolAll_14 (by decide) (s_124 hsh) (by omega) (by omega) (by decide) ?_
    refine k_eqst (st' := [.int (iI ((x8.2 124) 2)), .int (iI ((i8 : Int)))]) rfl ?_
    refine k_icmp_ge (tgt := 69) dX8_enrolAll_15 rfl ⟨by omega, by omega⟩ ⟨by omega, by omega⟩ (fun h12 => absurd h12 (by omega)) (fun h12 => ?_)
    refine k_aload_n dX8_enrolAll_18 0 rfl rfl (by decide) ?_
    refine k_get (kf := 0) (v := .ref 124) dX8_enrolAll_19 kcX8 w_1747 (by decide) (by decide) (s_123 hsh) rfl rfl ?_
    refine k_bipush (v := 45) dX8_enrolAll_22 (by decide) ?_
    refine k_iload_n dX8_enrolAll_24 2 rfl rfl ?_
    refine k_iadd dX8_enrolAll_25 ?_
    refine k_iald dX8_enrolAll_26 (by decide) (s_124 hsh) (by omega) (by omega) (by decide) ?_
    have q13 := k_Mo_many (hU8.2.2).2.1 (x := 45 + ((i8 : Int))) (by omega) (by omega)
    refine k_if_eq (tgt := 63) dX8_enrolAll_27 rfl ⟨by omega, by omega⟩ (fun h14 => ?_) (fun h14 => ?_)
    · refine k_ift (F := (fun t => (k_pP sh (R_enrolAll)) ((r_enrolAll_8 σ) (k_it (b_enrolAll_8 σ) n8 (i8 + 1) t)))) h14 ?_
      refine k_iinc (ls' := [(0, .ref 123), (1, .int (iI (x8.1))), (2, .int (iI ((i8 : Int) + 1)))]) dX8_enrolAll_63 2 rfl (by decide) rfl rfl ?_
      refine k_goto (tgt := 8) dX8_enrolAll_66 rfl ?_
      exact ih8 ((x8.1, x8.2)) (show (0 ≤ x8.1 ∧ x8.1 ≤ ((i8 + 1 : Nat) : Int)) ∧ (x8.2) 124 2 = (σ 124) 2 ∧ k_MA (x8.2) from ⟨by omega, hU8.2.1, ⟨(hU8.2.2).1, (hU8.2.2).2.1, (hU8.2.2).2.2.1, (hU8.2.2).2.2.2.1, (hU8.2.2).2.2.2.2.1, (hU8.2.2).2.2.2.2.2.1, (hU8.2.2).2.2.2.2.2.2.1, (hU8.2.2).2.2.2.2.2.2.2.1, (hU8.2.2).2.2.2.2.2.2.2.2.1, (hU8.2.2).2.2.2.2.2.2.2.2.2.1, (hU8.2.2).2.2.2.2.2.2.2.2.2.2.1, (hU8.2.2).2.2.2.2.2.2.2.2.2.2.2.1, (hU8.2.2).2.2.2.2.2.2.2.2.2.2.2.2⟩⟩)
    · refine k_iff (F := (fun t => (k_pP sh (R_enrolAll)) ((r_enrolAll_8 σ) (k_it (b_enrolAll_8 σ) n8 (i8 + 1) t)))) h14 ?_
      refine k_aload_n dX8_enrolAll_30 0 rfl rfl (by decide) ?_
      refine k_iload_n dX8_enrolAll_31 2 rfl rfl ?_
      refine k_callVrP (st := []) (as := [.int (iI ((i8 : Int)))]) dX8_enrolAll_32 oX8_classesOf w_2044 w_2046 w_55 rfl (by omega) rfl (Nat.le_of_ble_eq_true rfl) (by decide) (s_123 hsh) rfl (c8_classesOf (σ := x8.2) hsh (hU8.2.2).2.1 (by omega)) (fun z15 => ?_)
      have z15 : 0 ≤ m_classesOf (x8.2 124) (i8 : Int) ∧ m_classesOf (x8.2 124) (i8 : Int) ≤ 4 := z15
      refine k_if_le (tgt := 41) dX8_enrolAll_35 rfl ⟨by omega, by omega⟩ (fun h16 => ?_) (fun h16 => ?_)
      · refine k_ift (F := (fun t => (k_pP sh (R_enrolAll)) ((r_enrolAll_8 σ) (k_it (b_enrolAll_8 σ) n8 (i8 + 1) t)))) h16 ?_
        refine k_aload_n dX8_enrolAll_41 0 rfl rfl (by decide) ?_
        refine k_iload_n dX8_enrolAll_42 2 rfl rfl ?_
        refine k_callVrP (st := []) (as := [.int (iI ((i8 : Int)))]) dX8_enrolAll_43 oX8_enrolNow w_2040 w_2042 w_54 rfl (by omega) rfl (Nat.le_of_ble_eq_true rfl) (by decide) (s_123 hsh) rfl (c8_enrolNow (σ := x8.2) hsh (show k_MA x8.2 from ⟨(hU8.2.2).1, (hU8.2.2).2.1, (hU8.2.2).2.2.1, (hU8.2.2).2.2.2.1, (hU8.2.2).2.2.2.2.1, (hU8.2.2).2.2.2.2.2.1, (hU8.2.2).2.2.2.2.2.2.1, (hU8.2.2).2.2.2.2.2.2.2.1, (hU8.2.2).2.2.2.2.2.2.2.2.1, (hU8.2.2).2.2.2.2.2.2.2.2.2.1, (hU8.2.2).2.2.2.2.2.2.2.2.2.2.1, (hU8.2.2).2.2.2.2.2.2.2.2.2.2.2.1, (hU8.2.2).2.2.2.2.2.2.2.2.2.2.2.2⟩) (by omega)) (fun z17 => ?_)
        have z17 : (-1 ≤ (m_enrolNow x8.2 (i8 : Int)).1 ∧ (m_enrolNow x8.2 (i8 : Int)).1 ≤ 1000) ∧ k_MA (m_enrolNow x8.2 (i8 : Int)).2 := z17
        have z18 := z17.1
        obtain ⟨⟨y19_0, y19_0b⟩, ⟨y19_1, y19_1b⟩, ⟨y19_2, y19_2b⟩, ⟨y19_3, y19_3b⟩, -⟩ := id ((z17.2)).2.1
        obtain ⟨⟨f20_0, g20_0⟩, ⟨f20_1, g20_1⟩, ⟨f20_2, g20_2⟩, ⟨f20_3, g20_3⟩, ⟨f20_4, g20_4⟩, ⟨f20_5, g20_5⟩, ⟨f20_6, g20_6⟩, ⟨f20_7, g20_7⟩, ⟨f20_8, g20_8⟩, ⟨f20_9, g20_9⟩, ⟨f20_10, g20_10⟩, ⟨f20_11, g20_11⟩, ⟨f20_12, g20_12⟩, ⟨f20_13, g20_13⟩⟩ := id ((z17.2)).1
        have y_e : (m_enrolNow x8.2 (i8 : Int)).2 124 2 = x8.2 124 2 := m_enrolNow_105 hU8.2.2 (by omega) 2 (by decide)
        refine k_istore_n (ls' := [(0, .ref 123), (1, .int (iI (x8.1))), (2, .int (iI ((i8 : Int)))), (3, .int (iI ((m_enrolNow x8.2 (i8 : Int)).1)))]) dX8_enrolAll_46 rfl (by decide) rfl rfl ?_
        refine k_iload_n dX8_enrolAll_47 1 rfl rfl ?_
        refine k_aload_n dX8_enrolAll_48 0 rfl rfl (by decide) ?_
        refine k_iload_n dX8_enrolAll_49 2 rfl rfl ?_
        refine k_callVrP (st := [.int (iI (x8.1))]) (as := [.int (iI ((i8 : Int)))]) dX8_enrolAll_50 oX8_isServed w_2068 w_2070 w_60 rfl (by omega) rfl (Nat.le_of_ble_eq_true rfl) (by decide) (s_123 hsh) rfl (c8_isServed (σ := (m_enrolNow x8.2 (i8 : Int)).2) hsh ((z17.2)).2.1 (by omega)) (fun z21 => ?_)
        refine k_if_eq (tgt := 60) dX8_enrolAll_53 rfl (zb_kr _) (fun h22 => ?_) (fun h22 => ?_)
        · have h22 := zb_0.mp h22
          refine k_iff (F := (fun t => (k_pP sh (R_enrolAll)) ((r_enrolAll_8 σ) (k_it (b_enrolAll_8 σ) n8 (i8 + 1) t)))) h22 ?_
          refine k_iconst (v := 0) dX8_enrolAll_60 rfl ?_
          refine k_iadd dX8_enrolAll_61 ?_
          refine k_istore_n (ls' := [(0, .ref 123), (1, .int (iI ((x8.1) + 0))), (2, .int (iI ((i8 : Int)))), (3, .int (iI ((m_enrolNow x8.2 (i8 : Int)).1)))]) dX8_enrolAll_62 rfl (by decide) rfl rfl ?_
          refine k_iinc (ls' := [(0, .ref 123), (1, .int (iI ((x8.1) + 0))), (2, .int (iI ((i8 : Int) + 1))), (3, .int (iI ((m_enrolNow x8.2 (i8 : Int)).1)))]) dX8_enrolAll_63 2 rfl (by decide) rfl rfl ?_
          refine k_goto (tgt := 8) dX8_enrolAll_66 rfl ?_
          refine k_dropr (ls' := [(0, .ref 123), (1, .int (iI ((x8.1) + 0))), (2, .int (iI ((i8 : Int) + 1)))]) (ex := [(3, .int (iI ((m_enrolNow x8.2 (i8 : Int)).1)))]) rfl ?_
          exact ih8 (((x8.1) + 0, (m_enrolNow x8.2 (i8 : Int)).2)) (show (0 ≤ (x8.1) + 0 ∧ (x8.1) + 0 ≤ ((i8 + 1 : Nat) : Int)) ∧ ((m_enrolNow x8.2 (i8 : Int)).2) 124 2 = (σ 124) 2 ∧ k_MA ((m_enrolNow x8.2 (i8 : Int)).2) from ⟨by omega, y_e.trans hU8.2.1, ⟨((z17.2)).1, ((z17.2)).2.1, ((z17.2)).2.2.1, ((z17.2)).2.2.2.1, ((z17.2)).2.2.2.2.1, ((z17.2)).2.2.2.2.2.1, ((z17.2)).2.2.2.2.2.2.1, ((z17.2)).2.2.2.2.2.2.2.1, ((z17.2)).2.2.2.2.2.2.2.2.1, ((z17.2)).2.2.2.2.2.2.2.2.2.1, ((z17.2)).2.2.2.2.2.2.2.2.2.2.1, ((z17.2)).2.2.2.2.2.2.2.2.2.2.2.1, ((z17.2)).2.2.2.2.2.2.2.2.2.2.2.2⟩⟩)
        · have h22 := zb_n0.mp h22
          refine k_ift (F := (fun t => (k_pP sh (R_enrolAll)) ((r_enrolAll_8 σ) (k_it (b_enrolAll_8 σ) n8 (i8 + 1) t)))) h22 ?_
          refine k_iconst (v := 1) dX8_enrolAll_56 rfl ?_
          refine k_goto (tgt := 61) dX8_enrolAll_57 rfl ?_
          refine k_iadd dX8_enrolAll_61 ?_
          refine k_istore_n (ls' := [(0, .ref 123), (1, .int (iI ((x8.1) + 1))), (2, .int (iI ((i8 : Int)))), (3, .int (iI ((m_enrolNow x8.2 (i8 : Int)).1)))]) dX8_enrolAll_62 rfl (by decide) rfl rfl ?_
          refine k_iinc (ls' := [(0, .ref 123), (1, .int (iI ((x8.1) + 1))), (2, .int (iI ((i8 : Int) + 1))), (3, .int (iI ((m_enrolNow x8.2 (i8 : Int)).1)))]) dX8_enrolAll_63 2 rfl (by decide) rfl rfl ?_
          refine k_goto (tgt := 8) dX8_enrolAll_66 rfl ?_
          refine k_dropr (ls' := [(0, .ref 123), (1, .int (iI ((x8.1) + 1))), (2, .int (iI ((i8 : Int) + 1)))]) (ex := [(3, .int (iI ((m_enrolNow x8.2 (i8 : Int)).1)))]) rfl ?_
          exact ih8 (((x8.1) + 1, (m_enrolNow x8.2 (i8 : Int)).2)) (show (0 ≤ (x8.1) + 1 ∧ (x8.1) + 1 ≤ ((i8 + 1 : Nat) : Int)) ∧ ((m_enrolNow x8.2 (i8 : Int)).2) 124 2 = (σ 124) 2 ∧ k_MA ((m_enrolNow x8.2 (i8 : Int)).2) from ⟨by omega, y_e.trans hU8.2.1, ⟨((z17.2)).1, ((z17.2)).2.1, ((z17.2)).2.2.1, ((z17.2)).2.2.2.1, ((z17.2)).2.2.2.2.1, ((z17.2)).2.2.2.2.2.1, ((z17.2)).2.2.2.2.2.2.1, ((z17.2)).2.2.2.2.2.2.2.1, ((z17.2)).2.2.2.2.2.2.2.2.1, ((z17.2)).2.2.2.2.2.2.2.2.2.1, ((z17.2)).2.2.2.2.2.2.2.2.2.2.1, ((z17.2)).2.2.2.2.2.2.2.2.2.2.2.1, ((z17.2)).2.2.2.2.2.2.2.2.2.2.2.2⟩⟩)
      · refine k_iff (F := (fun t => (k_pP sh (R_enrolAll)) ((r_enrolAll_8 σ) (k_it (b_enrolAll_8 σ) n8 (i8 + 1) t)))) (Int.not_le.mpr h16) ?_
        refine k_goto (tgt := 63) dX8_enrolAll_38 rfl ?_
        refine k_iinc (ls' := [(0, .ref 123), (1, .int (iI (x8.1))), (2, .int (iI ((i8 : Int) + 1)))]) dX8_enrolAll_63 2 rfl (by decide) rfl rfl ?_
        refine k_goto (tgt := 8) dX8_enrolAll_66 rfl ?_
        exact ih8 ((x8.1, x8.2)) (show (0 ≤ x8.1 ∧ x8.1 ≤ ((i8 + 1 : Nat) : Int)) ∧ (x8.2) 124 2 = (σ 124) 2 ∧ k_MA (x8.2) from ⟨by omega, hU8.2.1, ⟨(hU8.2.2).1, (hU8.2.2).2.1, (hU8.2.2).2.2.1, (hU8.2.2).2.2.2.1, (hU8.2.2).2.2.2.2.1, (hU8.2.2).2.2.2.2.2.1, (hU8.2.2).2.2.2.2.2.2.1, (hU8.2.2).2.2.2.2.2.2.2.1, (hU8.2.2).2.2.2.2.2.2.2.2.1, (hU8.2.2).2.2.2.2.2.2.2.2.2.1, (hU8.2.2).2.2.2.2.2.2.2.2.2.2.1, (hU8.2.2).2.2.2.2.2.2.2.2.2.2.2.1, (hU8.2.2).2.2.2.2.2.2.2.2.2.2.2.2⟩⟩)
end K_M8
