/-! ===== THE MODEL: placements, chains, arrangements ===== -/
section K_M3
variable {E : k_E} {sh : List k_Sh} {σ : Nat → Nat → Int} {r : Nat → Int}
theorem z_tdivI {x y : Int} (hx : k_r x) (hy : 0 < y) (hy2 : y < 2147483648) : iI x / iI y = iI (x.tdiv y) := by
  have h1 : x.tdiv y ≤ 2147483647 := by
    rcases Int.le_total 0 x with h | h
    · rw [Int.tdiv_eq_ediv_of_nonneg h]
      have := Int.ediv_le_self y h
      have := hx.2
      omega
    · have h2 : 0 ≤ (-x).tdiv y := Int.tdiv_nonneg (by omega) (Int.le_of_lt hy)
      rw [Int.neg_tdiv] at h2
      omega
  have h0 : -2147483648 ≤ x.tdiv y := by
    rcases Int.le_total 0 x with h | h
    · have := Int.tdiv_nonneg h (Int.le_of_lt hy)
      omega
    · have h3 := Int.ediv_le_self y (a := -x) (by omega)
      have h2 : (-x).tdiv y = (-x) / y := Int.tdiv_eq_ediv_of_nonneg (by omega)
      rw [Int.neg_tdiv] at h2
      have := hx.1
      omega
  apply Int32.toInt_inj.mp
  rw [Int32.toInt_div_of_ne_right _ _ (fun e => ?_), iI_toInt hx, iI_toInt ⟨by omega, hy2⟩, iI_toInt ⟨h0, by omega⟩]
  have e2 : (iI y).toInt = -1 := by rw [e]; decide
  rw [iI_toInt ⟨by omega, hy2⟩] at e2
  omega
theorem z_half_r {x : Int} (h : -1 ≤ x ∧ x ≤ 100) : -1 ≤ x.tdiv 2 ∧ x.tdiv 2 ≤ 100 := by
  rcases Int.le_total 0 x with q | q
  · rw [Int.tdiv_eq_ediv_of_nonneg q]
    omega
  · have : x = -1 ∨ x = 0 := by omega
    rcases this with rfl | rfl <;> decide
abbrev R_findsPlacement (τ : Nat → Nat → Int) : Prop := k_MA τ
def r_findsPlacement_7 (σ : Nat → Nat → Int) (p : Int) (x7 : (Nat → Int) × (Nat → Int) × (Nat → Int)) : (Nat → Nat → Int) := (k_up (k_up (k_up σ 123 (x7.1)) 131 (x7.2.1)) 132 (x7.2.2))
def r_findsPlacement_72 (σ : Nat → Nat → Int) (p : Int) (i7 : Nat) (x7 : (Nat → Int) × (Nat → Int) × (Nat → Int)) (x19 : Int × (Nat → Int)) (x72 : (Nat → Int)) : (Nat → Int) × (Nat → Int) × (Nat → Int) := ((k_u1 (x7.1) 19 (m_worth (σ 124) (x19.2) p)), (x19.2), x72)
def b_findsPlacement_72 (σ : Nat → Nat → Int) (p : Int) (i7 : Nat) (x7 : (Nat → Int) × (Nat → Int) × (Nat → Int)) (x19 : Int × (Nat → Int)) (i72 : Nat) (x72 : (Nat → Int)) : (Nat → Int) := (k_u1 x72 ((i72 : Int)).toNat ((x19.2) ((i72 : Int)).toNat))
def r_findsPlacement_19 (σ : Nat → Nat → Int) (p : Int) (i7 : Nat) (x7 : (Nat → Int) × (Nat → Int) × (Nat → Int)) (x19 : Int × (Nat → Int)) : (Nat → Int) × (Nat → Int) × (Nat → Int) := if (m_worth (σ 124) (x19.2) p) ≤ ((x7.1) 19) then ((x7.1), (x19.2), (x7.2.2)) else (r_findsPlacement_72 σ p i7 x7 x19) (k_it (b_findsPlacement_72 σ p i7 x7 x19) (4) 0 ((x7.2.2)))
def b_findsPlacement_19 (σ : Nat → Nat → Int) (p : Int) (i7 : Nat) (x7 : (Nat → Int) × (Nat → Int) × (Nat → Int)) (i19 : Nat) (x19 : Int × (Nat → Int)) : Int × (Nat → Int) := ((x19.1) / (5), (k_u1 (x19.2) (3 - (i19 : Int)).toNat ((x19.1) % (5))))
def b_findsPlacement_7 (σ : Nat → Nat → Int) (p : Int) (i7 : Nat) (x7 : (Nat → Int) × (Nat → Int) × (Nat → Int)) : (Nat → Int) × (Nat → Int) × (Nat → Int) := (r_findsPlacement_19 σ p i7 x7) (k_it (b_findsPlacement_19 σ p i7 x7) (4) 0 (((i7 : Int), (x7.2.1))))
def m_findsPlacement (σ : Nat → Nat → Int) (p : Int) : (Nat → Nat → Int) := (r_findsPlacement_7 σ p) (k_it (b_findsPlacement_7 σ p) (625) 0 (((k_u1 (σ 123) 19 (-1)), (σ 131), (σ 132))))
set_option maxRecDepth 100000 in
set_option maxHeartbeats 4000000 in
theorem c8_findsPlacement (hsh : k_Main sh) (hMA : k_MA σ) {p : Int} (h_p : 0 ≤ p ∧ p < 12) : k_C E mX8_findsPlacement 5 [.ref 123, .int (iI (p))] sh σ 0 0 ((k_pS sh R_findsPlacement) (m_findsPlacement σ p)) := by
  refine k_C_of (ls0 := [(0, .ref 123), (1, .int (iI (p)))]) rfl pnX8 (fun v hv => k_cat1 rfl hv) (Nat.le_of_ble_eq_true rfl) rfl ?_
  obtain ⟨⟨t0, t0b⟩, ⟨t1, t1b⟩, ⟨t2, t2b⟩, ⟨t3, t3b⟩, -⟩ := id hMA.2.1
  obtain ⟨⟨f15_0, g15_0⟩, ⟨f15_1, g15_1⟩, ⟨f15_2, g15_2⟩, ⟨f15_3, g15_3⟩, ⟨f15_4, g15_4⟩, ⟨f15_5, g15_5⟩, ⟨f15_6, g15_6⟩, ⟨f15_7, g15_7⟩, ⟨f15_8, g15_8⟩, ⟨f15_9, g15_9⟩, ⟨f15_10, g15_10⟩, ⟨f15_11, g15_11⟩, ⟨f15_12, g15_12⟩, ⟨f15_13, g15_13⟩⟩ := id hMA.1
  unfold m_findsPlacement
  refine k_aload_n dX8_findsPlacement_0 0 rfl rfl (by decide) ?_
  refine k_iconst (v := (-1)) dX8_findsPlacement_1 rfl ?_
  refine k_putfW (kf := 19) dX8_findsPlacement_2 kcX8 w_1766 (by decide) (by decide) (s_123 hsh) rfl rfl rfl rfl ?_
  refine k_eqσ (σ' := (k_up σ 123 (k_u1 (σ 123) 19 (-1)))) rfl ?_
  refine k_iconst (v := 0) dX8_findsPlacement_5 rfl ?_
  refine k_istore_n (ls' := [(0, .ref 123), (1, .int (iI (p))), (2, .int (iI (0)))]) dX8_findsPlacement_6 rfl (by decide) rfl rfl ?_
  refine k_eqσ (σ' := (k_up (k_up σ 123 (k_u1 (σ 123) 19 (-1))) 131 (σ 131))) ((show k_up (k_up σ 123 (k_u1 (σ 123) 19 (-1))) 131 (σ 131) = (k_up (k_up σ 123 (k_u1 (σ 123) 19 (-1))) 131 (σ 131)) from rfl).symm.trans (k_up_self _ _)) ?_
  refine k_eqσ (σ' := (k_up (k_up (k_up σ 123 (k_u1 (σ 123) 19 (-1))) 131 (σ 131)) 132 (σ 132))) ((show k_up (k_up (k_up σ 123 (k_u1 (σ 123) 19 (-1))) 131 (σ 131)) 132 (σ 132) = (k_up (k_up (k_up σ 123 (k_u1 (σ 123) 19 (-1))) 131 (σ 131)) 132 (σ 132)) from rfl).symm.trans (k_up_self _ _)) ?_
  refine k_loop (α := (Nat → Int) × (Nat → Int) × (Nat → Int)) (P := fun (i7 : Nat) (x7 : (Nat → Int) × (Nat → Int) × (Nat → Int)) Q => k_V E mX8_findsPlacement _ 7 [(0, .ref 123), (1, .int (iI (p))), (2, .int (iI ((i7 : Int))))] [] sh (k_up (k_up (k_up σ 123 (x7.1)) 131 (x7.2.1)) 132 (x7.2.2)) _ _ Q) (J := fun (i7 : Nat) (x7 : (Nat → Int) × (Nat → Int) × (Nat → Int)) => ((k_F0 x7.1)) ∧ ((k_rg 0 4 x7.2.1)) ∧ (k_rg 0 4 x7.2.2)) (625) (b_findsPlacement_7 σ p) (((k_u1 (σ 123) 19 (-1)), (σ 131), (σ 132))) (F := fun t => (k_pS sh R_findsPlacement) ((r_findsPlacement_7 σ p) t)) (show ((k_F0 (k_u1 (σ 123) 19 (-1)))) ∧ ((k_rg 0 4 (σ 131))) ∧ (k_rg 0 4 (σ 132)) from ⟨(show k_F0 (k_u1 (σ 123) 19 (-1)) from (k_F0_u (hMA).1 (by omega))), (hMA).2.2.2.2.1, (hMA).2.2.2.2.2.1⟩) ?_ ?_
  · intro x7 hJ7
    have hJ7 : ((k_F0 x7.1)) ∧ ((k_rg 0 4 x7.2.1)) ∧ (k_rg 0 4 x7.2.2) := hJ7
    obtain ⟨hW7_123, hW7_131, hW7_132⟩ := id hJ7
    obtain ⟨⟨f2_0, g2_0⟩, ⟨f2_1, g2_1⟩, ⟨f2_2, g2_2⟩, ⟨f2_3, g2_3⟩, ⟨f2_4, g2_4⟩, ⟨f2_5, g2_5⟩, ⟨f2_6, g2_6⟩, ⟨f2_7, g2_7⟩, ⟨f2_8, g2_8⟩, ⟨f2_9, g2_9⟩, ⟨f2_10, g2_10⟩, ⟨f2_11, g2_11⟩, ⟨f2_12, g2_12⟩, ⟨f2_13, g2_13⟩⟩ := id hW7_123
    show k_V E mX8_findsPlacement _ 7 [(0, .ref 123), (1, .int (iI (p))), (2, .int (iI (((625 : Nat) : Int))))] [] sh (k_up (k_up (k_up σ 123 (x7.1)) 131 (x7.2.1)) 132 (x7.2.2)) _ _ ((k_pS sh R_findsPlacement) ((r_findsPlacement_7 σ p) x7))
    unfold r_findsPlacement_7
    refine k_iload_n dX8_findsPlacement_7 2 rfl rfl ?_
    refine k_sipush (v := 625) dX8_findsPlacement_8 (by decide) ?_
    refine k_icmp_ge (tgt := 104) dX8_findsPlacement_11 rfl ⟨by omega, by omega⟩ ⟨by decide, by decide⟩ (fun h3 => ?_) (fun h3 => absurd h3 (by omega))
    exact k_retvP dX8_findsPlacement_104 rfl rfl (show k_MA (k_up (k_up (k_up σ 123 (x7.1)) 131 (x7.2.1)) 132 (x7.2.2)) from ⟨hW7_123, (hMA).2.1, (hMA).2.2.1, (hMA).2.2.2.1, hW7_131, hW7_132, (hMA).2.2.2.2.2.2.1, (hMA).2.2.2.2.2.2.2.1, (hMA).2.2.2.2.2.2.2.2.1, (hMA).2.2.2.2.2.2.2.2.2.1, (hMA).2.2.2.2.2.2.2.2.2.2.1, (hMA).2.2.2.2.2.2.2.2.2.2.2.1, (hMA).2.2.2.2.2.2.2.2.2.2.2.2⟩)
  · intro n7 i7 x7 hi7 hJ7 ih7
    have hJ7 : ((k_F0 x7.1)) ∧ ((k_rg 0 4 x7.2.1)) ∧ (k_rg 0 4 x7.2.2) := hJ7
    obtain ⟨hW7_123, hW7_131, hW7_132⟩ := id hJ7
    obtain ⟨⟨f4_0, g4_0⟩, ⟨f4_1, g4_1⟩, ⟨f4_2, g4_2⟩, ⟨f4_3, g4_3⟩, ⟨f4_4, g4_4⟩, ⟨f4_5, g4_5⟩, ⟨f4_6, g4_6⟩, ⟨f4_7, g4_7⟩, ⟨f4_8, g4_8⟩, ⟨f4_9, g4_9⟩, ⟨f4_10, g4_10⟩, ⟨f4_11, g4_11⟩, ⟨f4_12, g4_12⟩, ⟨f4_13, g4_13⟩⟩ := id hW7_123
    show k_V E mX8_findsPlacement _ 7 [(0, .ref 123), (1, .int (iI (p))), (2, .int (iI ((i7 : Int))))] [] sh (k_up (k_up (k_up σ 123 (x7.1)) 131 (x7.2.1)) 132 (x7.2.2)) _ _ ((fun t => (k_pS sh R_findsPlacement) ((r_findsPlacement_7 σ p) (k_it (b_findsPlacement_7 σ p) n7 (i7 + 1) t))) ((b_findsPlacement_7 σ p) i7 x7))
    unfold b_findsPlacement_7
    refine k_iload_n dX8_findsPlacement_7 2 rfl rfl ?_
    refine k_sipush (v := 625) dX8_findsPlacement_8 (by decide) ?_
    refine k_icmp_ge (tgt := 104) dX8_findsPlacement_11 rfl ⟨by omega, by omega⟩ ⟨by decide, by decide⟩ (fun h5 => absurd h5 (by omega)) (fun h5 => ?_)
    refine k_iload_n dX8_findsPlacement_14 2 rfl rfl ?_
    refine k_istore_n (ls' := [(0, .ref 123), (1, .int (iI (p))), (2, .int (iI ((i7 : Int)))), (3, .int (iI ((i7 : Int))))]) dX8_findsPlacement_15 rfl (by decide) rfl rfl ?_
    refine k_iconst (v := 3) dX8_findsPlacement_16 rfl ?_
    refine k_istore (ls' := [(0, .ref 123), (1, .int (iI (p))), (2, .int (iI ((i7 : Int)))), (3, .int (iI ((i7 : Int)))), (4, .int (iI (3)))]) dX8_findsPlacement_17 (by decide) rfl rfl ?_
    refine k_lrw (q := 4) (j := 4) (a' := 3 - ((0 : Nat) : Int)) (ls' := [(0, .ref 123), (1, .int (iI (p))), (2, .int (iI ((i7 : Int)))), (3, .int (iI ((i7 : Int)))), (4, .int (iI (3 - ((0 : Nat) : Int))))]) rfl (by omega) rfl ?_
    refine k_loop (α := Int × (Nat → Int)) (P := fun (i19 : Nat) (x19 : Int × (Nat → Int)) Q => k_V E mX8_findsPlacement _ 19 [(0, .ref 123), (1, .int (iI (p))), (2, .int (iI ((i7 : Int)))), (3, .int (iI (x19.1))), (4, .int (iI (3 - (i19 : Int))))] [] sh (k_up (k_up (k_up σ 123 (x7.1)) 131 (x19.2)) 132 (x7.2.2)) _ _ Q) (J := fun (i19 : Nat) (x19 : Int × (Nat → Int)) => (0 ≤ x19.1 ∧ x19.1 ≤ 624) ∧ (k_rg 0 4 x19.2)) (4) (b_findsPlacement_19 σ p i7 x7) (((i7 : Int), (x7.2.1))) (F := fun t => (fun t => (k_pS sh R_findsPlacement) ((r_findsPlacement_7 σ p) (k_it (b_findsPlacement_7 σ p) n7 (i7 + 1) t))) ((r_findsPlacement_19 σ p i7 x7) t)) (show (0 ≤ (i7 : Int) ∧ (i7 : Int) ≤ 624) ∧ (k_rg 0 4 (x7.2.1)) from ⟨(by omega), hW7_131⟩) ?_ ?_
    · intro x19 hJ19
      have hJ19 : (0 ≤ x19.1 ∧ x19.1 ≤ 624) ∧ (k_rg 0 4 x19.2) := hJ19
      obtain ⟨hU19, hW19_131⟩ := id hJ19
      show k_V E mX8_findsPlacement _ 19 [(0, .ref 123), (1, .int (iI (p))), (2, .int (iI ((i7 : Int)))), (3, .int (iI (x19.1))), (4, .int (iI (3 - ((4 : Nat) : Int))))] [] sh (k_up (k_up (k_up σ 123 (x7.1)) 131 (x19.2)) 132 (x7.2.2)) _ _ ((fun t => (k_pS sh R_findsPlacement) ((r_findsPlacement_7 σ p) (k_it (b_findsPlacement_7 σ p) n7 (i7 + 1) t))) ((r_findsPlacement_19 σ p i7 x7) x19))
      unfold r_findsPlacement_19
      refine k_iload dX8_findsPlacement_19 4 rfl ?_
      refine k_if_lt (tgt := 44) dX8_findsPlacement_21 rfl ⟨by omega, by omega⟩ (fun h7 => ?_) (fun h7 => absurd h7 (by omega))
      refine k_aload_n dX8_findsPlacement_44 0 rfl rfl (by decide) ?_
      refine k_iload_n dX8_findsPlacement_45 1 rfl rfl ?_
      refine k_callVrP (st := []) (as := [.int (iI (p))]) dX8_findsPlacement_46 oX8_worth w_2052 w_2054 w_57 rfl (by omega) rfl (Nat.le_of_ble_eq_true rfl) (by decide) (s_123 hsh) rfl (c8_worth (σ := (k_up (k_up (k_up σ 123 (x7.1)) 131 (x19.2)) 132 (x7.2.2))) hsh (hMA).2.1 (by omega) hW19_131) (fun z8 => ?_)
      have z8 : -1 ≤ m_worth (σ 124) (x19.2) p ∧ m_worth (σ 124) (x19.2) p ≤ 100 := z8
      refine k_eqst (st' := [.int (iI (m_worth (σ 124) (x19.2) p))]) rfl ?_
      refine k_istore (ls' := [(0, .ref 123), (1, .int (iI (p))), (2, .int (iI ((i7 : Int)))), (3, .int (iI (x19.1))), (4, .int (iI (m_worth (σ 124) (x19.2) p)))]) dX8_findsPlacement_49 (by decide) rfl rfl ?_
      refine k_iload dX8_findsPlacement_51 4 rfl ?_
      refine k_aload_n dX8_findsPlacement_53 0 rfl rfl (by decide) ?_
      refine k_get (kf := 19) (v := .int (iI ((x7.1) 19))) dX8_findsPlacement_54 kcX8 w_1766 (by decide) (by decide) (s_123 hsh) rfl rfl ?_
      refine k_icmp_gt (tgt := 63) dX8_findsPlacement_57 rfl ⟨by omega, by omega⟩ ⟨by omega, by omega⟩ (fun h9 => ?_) (fun h9 => ?_)
      · refine k_iff (F := (fun t => (k_pS sh R_findsPlacement) ((r_findsPlacement_7 σ p) (k_it (b_findsPlacement_7 σ p) n7 (i7 + 1) t)))) (Int.not_le.mpr h9) ?_
        refine k_aload_n dX8_findsPlacement_63 0 rfl rfl (by decide) ?_
        refine k_iload dX8_findsPlacement_64 4 rfl ?_
        refine k_putfW (kf := 19) dX8_findsPlacement_66 kcX8 w_1766 (by decide) (by decide) (s_123 hsh) rfl rfl rfl rfl ?_
        refine k_eqσ (σ' := (k_up (k_up (k_up σ 123 (k_u1 (x7.1) 19 (m_worth (σ 124) (x19.2) p))) 131 (x19.2)) 132 (x7.2.2))) (show k_up (k_up (k_up (k_up σ 123 (x7.1)) 131 (x19.2)) 132 (x7.2.2)) 123 (k_u1 (x7.1) 19 (m_worth (σ 124) (x19.2) p)) = _ from ((k_up_comm (by decide)).trans (congrArg (fun s => k_up s 132 _) ((k_up_comm (by decide)).trans (congrArg (fun s => k_up s 131 _) k_up_up))))).symm ?_
        refine k_iconst (v := 0) dX8_findsPlacement_69 rfl ?_
        refine k_istore (ls' := [(0, .ref 123), (1, .int (iI (p))), (2, .int (iI ((i7 : Int)))), (3, .int (iI (x19.1))), (4, .int (iI (m_worth (σ 124) (x19.2) p))), (5, .int (iI (0)))]) dX8_findsPlacement_70 (by decide) rfl rfl ?_
        refine k_loop (α := (Nat → Int)) (P := fun (i72 : Nat) (x72 : (Nat → Int)) Q => k_V E mX8_findsPlacement _ 72 [(0, .ref 123), (1, .int (iI (p))), (2, .int (iI ((i7 : Int)))), (3, .int (iI (x19.1))), (4, .int (iI (m_worth (σ 124) (x19.2) p))), (5, .int (iI ((i72 : Int))))] [] sh (k_up (k_up (k_up σ 123 (k_u1 (x7.1) 19 (m_worth (σ 124) (x19.2) p))) 131 (x19.2)) 132 x72) _ _ Q) (J := fun (i72 : Nat) (x72 : (Nat → Int)) => (k_rg 0 4 x72)) (4) (b_findsPlacement_72 σ p i7 x7 x19) ((x7.2.2)) (F := fun t => (fun t => (k_pS sh R_findsPlacement) ((r_findsPlacement_7 σ p) (k_it (b_findsPlacement_7 σ p) n7 (i7 + 1) t))) ((r_findsPlacement_72 σ p i7 x7 x19) t)) (show (k_rg 0 4 (x7.2.2)) from hW7_132) ?_ ?_
        · intro x72 hJ72
          have hJ72 : (k_rg 0 4 x72) := hJ72
          have hW72_132 := hJ72
          show k_V E mX8_findsPlacement _ 72 [(0, .ref 123), (1, .int (iI (p))), (2, .int (iI ((i7 : Int)))), (3, .int (iI (x19.1))), (4, .int (iI (m_worth (σ 124) (x19.2) p))), (5, .int (iI (((4 : Nat) : Int))))] [] sh (k_up (k_up (k_up σ 123 (k_u1 (x7.1) 19 (m_worth (σ 124) (x19.2) p))) 131 (x19.2)) 132 x72) _ _ ((fun t => (k_pS sh R_findsPlacement) ((r_findsPlacement_7 σ p) (k_it (b_findsPlacement_7 σ p) n7 (i7 + 1) t))) ((r_findsPlacement_72 σ p i7 x7 x19) x72))
          unfold r_findsPlacement_72
          refine k_iload dX8_findsPlacement_72 5 rfl ?_
          refine k_iconst (v := 4) dX8_findsPlacement_74 rfl ?_
          refine k_icmp_ge (tgt := 98) dX8_findsPlacement_75 rfl ⟨by omega, by omega⟩ ⟨by decide, by decide⟩ (fun h11 => ?_) (fun h11 => absurd h11 (by omega))
          refine k_iinc (ls' := [(0, .ref 123), (1, .int (iI (p))), (2, .int (iI ((i7 : Int) + 1))), (3, .int (iI (x19.1))), (4, .int (iI (m_worth (σ 124) (x19.2) p))), (5, .int (iI (((4 : Nat) : Int))))]) dX8_findsPlacement_98 2 rfl (by decide) rfl rfl ?_
          refine k_goto (tgt := 7) dX8_findsPlacement_101 rfl ?_
          refine k_dropr (ls' := [(0, .ref 123), (1, .int (iI (p))), (2, .int (iI ((i7 : Int) + 1)))]) (ex := [(3, .int (iI (x19.1))), (4, .int (iI (m_worth (σ 124) (x19.2) p))), (5, .int (iI (((4 : Nat) : Int))))]) rfl ?_
          exact ih7 (((k_u1 (x7.1) 19 (m_worth (σ 124) (x19.2) p)), (x19.2), x72)) (show ((k_F0 (k_u1 (x7.1) 19 (m_worth (σ 124) (x19.2) p)))) ∧ ((k_rg 0 4 (x19.2))) ∧ (k_rg 0 4 x72) from ⟨(show k_F0 (k_u1 (x7.1) 19 (m_worth (σ 124) (x19.2) p)) from (k_F0_u hW7_123 (by omega))), hW19_131, hW72_132⟩)
        · intro n72 i72 x72 hi72 hJ72 ih72
          have hJ72 : (k_rg 0 4 x72) := hJ72
          have hW72_132 := hJ72
          show k_V E mX8_findsPlacement _ 72 [(0, .ref 123), (1, .int (iI (p))), (2, .int (iI ((i7 : Int)))), (3, .int (iI (x19.1))), (4, .int (iI (m_worth (σ 124) (x19.2) p))), (5, .int (iI ((i72 : Int))))] [] sh (k_up (k_up (k_up σ 123 (k_u1 (x7.1) 19 (m_worth (σ 124) (x19.2) p))) 131 (x19.2)) 132 x72) _ _ ((fun t => (fun t => (k_pS sh R_findsPlacement) ((r_findsPlacement_7 σ p) (k_it (b_findsPlacement_7 σ p) n7 (i7 + 1) t))) ((r_findsPlacement_72 σ p i7 x7 x19) (k_it (b_findsPlacement_72 σ p i7 x7 x19) n72 (i72 + 1) t))) ((b_findsPlacement_72 σ p i7 x7 x19) i72 x72))
          unfold b_findsPlacement_72
          refine k_iload dX8_findsPlacement_72 5 rfl ?_
          refine k_iconst (v := 4) dX8_findsPlacement_74 rfl ?_
          refine k_icmp_ge (tgt := 98) dX8_findsPlacement_75 rfl ⟨by omega, by omega⟩ ⟨by decide, by decide⟩ (fun h12 => absurd h12 (by omega)) (fun h12 => ?_)
          refine k_aload_n dX8_findsPlacement_78 0 rfl rfl (by decide) ?_
          refine k_get (kf := 18) (v := .ref 132) dX8_findsPlacement_79 kcX8 w_1765 (by decide) (by decide) (s_123 hsh) rfl rfl ?_
          refine k_iload dX8_findsPlacement_82 5 rfl ?_
          refine k_aload_n dX8_findsPlacement_84 0 rfl rfl (by decide) ?_
          refine k_get (kf := 17) (v := .ref 131) dX8_findsPlacement_85 kcX8 w_1764 (by decide) (by decide) (s_123 hsh) rfl rfl ?_
          refine k_iload dX8_findsPlacement_88 5 rfl ?_
          refine k_iald dX8_findsPlacement_90 (by decide) (s_131 hsh) (by omega) (by omega) (by decide) ?_
          refine k_eqst (st' := [.int (iI ((x19.2) ((i72 : Int)).toNat)), .int (iI ((i72 : Int))), .ref 132]) rfl ?_
          have q13 := hW19_131 ((i72 : Int)).toNat
          refine k_iastW dX8_findsPlacement_91 (by decide) (s_132 hsh) (by omega) (by omega) (by decide) ?_
          refine k_eqσ (σ' := (k_up (k_up (k_up σ 123 (k_u1 (x7.1) 19 (m_worth (σ 124) (x19.2) p))) 131 (x19.2)) 132 (k_u1 x72 ((i72 : Int)).toNat ((x19.2) ((i72 : Int)).toNat)))) (show k_up (k_up (k_up (k_up σ 123 (k_u1 (x7.1) 19 (m_worth (σ 124) (x19.2) p))) 131 (x19.2)) 132 x72) 132 (k_u1 x72 ((i72 : Int)).toNat ((x19.2) ((i72 : Int)).toNat)) = _ from k_up_up).symm ?_
          refine k_iinc (ls' := [(0, .ref 123), (1, .int (iI (p))), (2, .int (iI ((i7 : Int)))), (3, .int (iI (x19.1))), (4, .int (iI (m_worth (σ 124) (x19.2) p))), (5, .int (iI ((i72 : Int) + 1)))]) dX8_findsPlacement_92 5 rfl (by decide) rfl rfl ?_
          refine k_goto (tgt := 72) dX8_findsPlacement_95 rfl ?_
          exact ih72 ((k_u1 x72 ((i72 : Int)).toNat ((x19.2) ((i72 : Int)).toNat))) (show (k_rg 0 4 (k_u1 x72 ((i72 : Int)).toNat ((x19.2) ((i72 : Int)).toNat))) from (show k_rg 0 4 (k_u1 x72 ((i72 : Int)).toNat ((x19.2) ((i72 : Int)).toNat)) from (k_rg_u hW72_132 (by omega))))
      · refine k_ift (F := (fun t => (k_pS sh R_findsPlacement) ((r_findsPlacement_7 σ p) (k_it (b_findsPlacement_7 σ p) n7 (i7 + 1) t)))) h9 ?_
        refine k_goto (tgt := 98) dX8_findsPlacement_60 rfl ?_
        refine k_iinc (ls' := [(0, .ref 123), (1, .int (iI (p))), (2, .int (iI ((i7 : Int) + 1))), (3, .int (iI (x19.1))), (4, .int (iI (m_worth (σ 124) (x19.2) p)))]) dX8_findsPlacement_98 2 rfl (by decide) rfl rfl ?_
        refine k_goto (tgt := 7) dX8_findsPlacement_101 rfl ?_
        refine k_dropr (ls' := [(0, .ref 123), (1, .int (iI (p))), (2, .int (iI ((i7 : Int) + 1)))]) (ex := [(3, .int (iI (x19.1))), (4, .int (iI (m_worth (σ 124) (x19.2) p)))]) rfl ?_
        exact ih7 (((x7.1), (x19.2), (x7.2.2))) (show ((k_F0 (x7.1))) ∧ ((k_rg 0 4 (x19.2))) ∧ (k_rg 0 4 (x7.2.2)) from ⟨hW7_123, hW19_131, hW7_132⟩)
    · intro n19 i19 x19 hi19 hJ19 ih19
      have hJ19 : (0 ≤ x19.1 ∧ x19.1 ≤ 624) ∧ (k_rg 0 4 x19.2) := hJ19
      obtain ⟨hU19, hW19_131⟩ := id hJ19
      show k_V E mX8_findsPlacement _ 19 [(0, .ref 123), (1, .int (iI (p))), (2, .int (iI ((i7 : Int)))), (3, .int (iI (x19.1))), (4, .int (iI (3 - (i19 : Int))))] [] sh (k_up (k_up (k_up σ 123 (x7.1)) 131 (x19.2)) 132 (x7.2.2)) _ _ ((fun t => (fun t => (k_pS sh R_findsPlacement) ((r_findsPlacement_7 σ p) (k_it (b_findsPlacement_7 σ p) n7 (i7 + 1) t))) ((r_findsPlacement_19 σ p i7 x7) (k_it (b_findsPlacement_19 σ p i7 x7) n19 (i19 + 1) t))) ((b_findsPlacement_19 σ p i7 x7) i19 x19))
      unfold b_findsPlacement_19
      refine k_iload dX8_findsPlacement_19 4 rfl ?_
      refine k_if_lt (tgt := 44) dX8_findsPlacement_21 rfl ⟨by omega, by omega⟩ (fun h14 => absurd h14 (by omega)) (fun h14 => ?_)
      refine k_aload_n dX8_findsPlacement_24 0 rfl rfl (by decide) ?_
      refine k_get (kf := 17) (v := .ref 131) dX8_findsPlacement_25 kcX8 w_1764 (by decide) (by decide) (s_123 hsh) rfl rfl ?_
      refine k_iload dX8_findsPlacement_28 4 rfl ?_
      refine k_iload_n dX8_findsPlacement_30 3 rfl rfl ?_
      refine k_iconst (v := 5) dX8_findsPlacement_31 rfl ?_
      refine k_irem (v := (iI ((x19.1) % (5)))) dX8_findsPlacement_32 (z_ne0 (by omega) (by omega)) (z_remI (by omega) (by omega) (by omega) (by omega)) ?_
      refine k_iastW dX8_findsPlacement_33 (by decide) (s_131 hsh) (by omega) (by omega) (by decide) ?_
      refine k_eqσ (σ' := (k_up (k_up (k_up σ 123 (x7.1)) 131 (k_u1 (x19.2) (3 - (i19 : Int)).toNat ((x19.1) % (5)))) 132 (x7.2.2))) (show k_up (k_up (k_up (k_up σ 123 (x7.1)) 131 (x19.2)) 132 (x7.2.2)) 131 (k_u1 (x19.2) (3 - (i19 : Int)).toNat ((x19.1) % (5))) = _ from ((k_up_comm (by decide)).trans (congrArg (fun s => k_up s 132 _) k_up_up))).symm ?_
      refine k_iload_n dX8_findsPlacement_34 3 rfl rfl ?_
      refine k_iconst (v := 5) dX8_findsPlacement_35 rfl ?_
      refine k_idiv (v := (iI ((x19.1) / (5)))) dX8_findsPlacement_36 (by decide) (z_divI (by omega) (by omega) (by omega) (by omega)) ?_
      refine k_istore_n (ls' := [(0, .ref 123), (1, .int (iI (p))), (2, .int (iI ((i7 : Int)))), (3, .int (iI ((x19.1) / (5)))), (4, .int (iI (3 - (i19 : Int))))]) dX8_findsPlacement_37 rfl (by decide) rfl rfl ?_
      refine k_iinc (ls' := [(0, .ref 123), (1, .int (iI (p))), (2, .int (iI ((i7 : Int)))), (3, .int (iI ((x19.1) / (5)))), (4, .int (iI (3 - (i19 : Int) + (-1))))]) dX8_findsPlacement_38 4 rfl (by decide) rfl rfl ?_
      refine k_goto (tgt := 19) dX8_findsPlacement_41 rfl ?_
      refine k_lrw (q := 4) (j := 4) (a' := 3 - ((i19 + 1 : Nat) : Int)) (ls' := [(0, .ref 123), (1, .int (iI (p))), (2, .int (iI ((i7 : Int)))), (3, .int (iI ((x19.1) / (5)))), (4, .int (iI (3 - ((i19 + 1 : Nat) : Int))))]) rfl (by omega) rfl ?_
      exact ih19 (((x19.1) / (5), (k_u1 (x19.2) (3 - (i19 : Int)).toNat ((x19.1) % (5))))) (show (0 ≤ (x19.1) / (5) ∧ (x19.1) / (5) ≤ 624) ∧ (k_rg 0 4 (k_u1 (x19.2) (3 - (i19 : Int)).toNat ((x19.1) % (5)))) from ⟨(by omega), (show k_rg 0 4 (k_u1 (x19.2) (3 - (i19 : Int)).toNat ((x19.1) % (5))) from (k_rg_u hW19_131 (by omega)))⟩)
abbrev R_enrolNow (t : Int × (Nat → Nat → Int)) : Prop := (-1 ≤ t.1 ∧ t.1 ≤ 1000) ∧ k_MA t.2
def r_enrolNow_47 (σ : Nat → Nat → Int) (p : Int) (x47 : (Nat → Int)) : Int × (Nat → Nat → Int) := ((((m_findsPlacement σ p) 123) 19).tdiv 2, (k_up (m_findsPlacement σ p) 124 x47))
def b_enrolNow_47 (σ : Nat → Nat → Int) (p : Int) (i47 : Nat) (x47 : (Nat → Int)) : (Nat → Int) := if (((m_findsPlacement σ p) 132) ((i47 : Int)).toNat) < 4 then if (i47 : Int) = 3 then (k_u1 x47 ((105 + (4 * p)) + (((m_findsPlacement σ p) 132) ((i47 : Int)).toNat)).toNat (x47 (93 + p).toNat)) else (k_u1 x47 ((105 + (4 * p)) + (((m_findsPlacement σ p) 132) ((i47 : Int)).toNat)).toNat (x47 (57 + 3 * p + (i47 : Int)).toNat)) else x47
def m_enrolNow (σ : Nat → Nat → Int) (p : Int) : Int × (Nat → Nat → Int) := if 0 ≤ p ∧ p < (σ 124) 2 then if (m_classesOf (σ 124) p) ≤ 0 then if ((σ 124) (45 + p).toNat) = 0 then (0, (k_up σ 123 (k_u1 (σ 123) 8 (3)))) else (r_enrolNow_47 σ p) (k_it (b_enrolNow_47 σ p) (4) 0 (((m_findsPlacement σ p) 124))) else (0, (k_up σ 123 (k_u1 (σ 123) 8 (3)))) else (0, (k_up σ 123 (k_u1 (σ 123) 8 (1))))
set_option maxRecDepth 100000 in
set_option maxHeartbeats 4000000 in
theorem c8_enrolNow (hsh : k_Main sh) (hMA : k_MA σ) {p : Int} (h_p : -2147483648 ≤ p ∧ p < 2147483648) : k_C E mX8_enrolNow 6 [.ref 123, .int (iI (p))] sh σ 0 0 ((k_pP sh R_enrolNow) (m_enrolNow σ p)) := by
  refine k_C_of (ls0 := [(0, .ref 123), (1, .int (iI (p)))]) rfl pnX8 (fun v hv => k_cat1 rfl hv) (Nat.le_of_ble_eq_true rfl) rfl ?_
  obtain ⟨⟨t0, t0b⟩, ⟨t1, t1b⟩, ⟨t2, t2b⟩, ⟨t3, t3b⟩, -⟩ := id hMA.2.1
  obtain ⟨⟨f24_0, g24_0⟩, ⟨f24_1, g24_1⟩, ⟨f24_2, g24_2⟩, ⟨f24_3, g24_3⟩, ⟨f24_4, g24_4⟩, ⟨f24_5, g24_5⟩, ⟨f24_6, g24_6⟩, ⟨f24_7, g24_7⟩, ⟨f24_8, g24_8⟩, ⟨f24_9, g24_9⟩, ⟨f24_10, g24_10⟩, ⟨f24_11, g24_11⟩, ⟨f24_12, g24_12⟩, ⟨f24_13, g24_13⟩⟩ := id hMA.1
  unfold m_enrolNow
  refine k_aload_n dX8_enrolNow_0 0 rfl rfl (by decide) ?_
  refine k_iload_n dX8_enrolNow_1 1 rfl rfl ?_
  refine k_callVr (st := []) (as := [.int (iI (p))]) dX8_enrolNow_2 oX8_isPupil w_1992 w_1994 w_49 rfl (by omega) rfl (Nat.le_of_ble_eq_true rfl) (by decide) (s_123 hsh) rfl (c8_isPupil (σ := σ) hsh (hMA).2.1 ⟨by omega, by omega⟩) ?_
  refine k_if_ne (tgt := 14) dX8_enrolNow_5 rfl (zb_kr _) (fun h2 => ?_) (fun h2 => ?_)
  · have h2 := zb_n0.mp h2
    refine k_ift (F := (k_pP sh R_enrolNow)) h2 ?_
    refine k_aload_n dX8_enrolNow_14 0 rfl rfl (by decide) ?_
    refine k_iload_n dX8_enrolNow_15 1 rfl rfl ?_
    refine k_callVrP (st := []) (as := [.int (iI (p))]) dX8_enrolNow_16 oX8_classesOf w_2044 w_2046 w_55 rfl (by omega) rfl (Nat.le_of_ble_eq_true rfl) (by decide) (s_123 hsh) rfl (c8_classesOf hsh (hMA).2.1 (by omega)) (fun z3 => ?_)
    have z3 : 0 ≤ m_classesOf (σ 124) p ∧ m_classesOf (σ 124) p ≤ 4 := z3
    refine k_if_gt (tgt := 34) dX8_enrolNow_19 rfl ⟨by omega, by omega⟩ (fun h4 => ?_) (fun h4 => ?_)
    · refine k_iff (F := (k_pP sh R_enrolNow)) (Int.not_le.mpr h4) ?_
      refine k_aload_n dX8_enrolNow_34 0 rfl rfl (by decide) ?_
      refine k_iconst (v := 3) dX8_enrolNow_35 rfl ?_
      refine k_callVr (st := []) (as := [.int (iI (3))]) dX8_enrolNow_36 oX8_bad w_1884 w_1886 w_35 rfl (by omega) rfl (Nat.le_of_ble_eq_true rfl) (by decide) (s_123 hsh) rfl (c8_bad hsh) ?_
      refine k_eqσ (σ' := (k_up σ 123 (k_u1 (σ 123) 8 (3)))) ((show k_up σ 123 (k_u1 (σ 123) 8 (3)) = (k_up σ 123 (k_u1 (σ 123) 8 (3))) from rfl)).symm ?_
      exact k_retiP dX8_enrolNow_39 rfl rfl rfl (show (-1 ≤ (0 : Int) ∧ (0 : Int) ≤ 1000) ∧ k_MA (k_up σ 123 (k_u1 (σ 123) 8 (3))) from ⟨by omega, ⟨(show k_F0 (k_u1 (σ 123) 8 (3)) from (k_F0_u (hMA).1 (by omega))), (hMA).2.1, (hMA).2.2.1, (hMA).2.2.2.1, (hMA).2.2.2.2.1, (hMA).2.2.2.2.2.1, (hMA).2.2.2.2.2.2.1, (hMA).2.2.2.2.2.2.2.1, (hMA).2.2.2.2.2.2.2.2.1, (hMA).2.2.2.2.2.2.2.2.2.1, (hMA).2.2.2.2.2.2.2.2.2.2.1, (hMA).2.2.2.2.2.2.2.2.2.2.2.1, (hMA).2.2.2.2.2.2.2.2.2.2.2.2⟩⟩)
    · refine k_ift (F := (k_pP sh R_enrolNow)) h4 ?_
      refine k_aload_n dX8_enrolNow_22 0 rfl rfl (by decide) ?_
      refine k_get (kf := 0) (v := .ref 124) dX8_enrolNow_23 kcX8 w_1747 (by decide) (by decide) (s_123 hsh) rfl rfl ?_
      refine k_bipush (v := 45) dX8_enrolNow_26 (by decide) ?_
      refine k_iload_n dX8_enrolNow_28 1 rfl rfl ?_
      refine k_iadd dX8_enrolNow_29 ?_
      refine k_iald dX8_enrolNow_30 (by decide) (s_124 hsh) (by omega) (by omega) (by decide) ?_
      have q6 := k_Mo_many (hMA).2.1 (x := 45 + p) (by omega) (by omega)
      refine k_if_ne (tgt := 40) dX8_enrolNow_31 rfl ⟨by omega, by omega⟩ (fun h7 => ?_) (fun h7 => ?_)
      · refine k_iff (F := (k_pP sh R_enrolNow)) h7 ?_
        refine k_aload_n dX8_enrolNow_40 0 rfl rfl (by decide) ?_
        refine k_iload_n dX8_enrolNow_41 1 rfl rfl ?_
        refine k_callVrP (st := []) (as := [.int (iI (p))]) dX8_enrolNow_42 oX8_findsPlacement w_2048 w_2050 w_56 rfl (by omega) rfl (Nat.le_of_ble_eq_true rfl) (by decide) (s_123 hsh) rfl (c8_findsPlacement hsh (show k_MA σ from ⟨(hMA).1, (hMA).2.1, (hMA).2.2.1, (hMA).2.2.2.1, (hMA).2.2.2.2.1, (hMA).2.2.2.2.2.1, (hMA).2.2.2.2.2.2.1, (hMA).2.2.2.2.2.2.2.1, (hMA).2.2.2.2.2.2.2.2.1, (hMA).2.2.2.2.2.2.2.2.2.1, (hMA).2.2.2.2.2.2.2.2.2.2.1, (hMA).2.2.2.2.2.2.2.2.2.2.2.1, (hMA).2.2.2.2.2.2.2.2.2.2.2.2⟩) (by omega)) (fun z8 => ?_)
        have z8 : k_MA (m_findsPlacement σ p) := z8
        obtain ⟨⟨y9_0, y9_0b⟩, ⟨y9_1, y9_1b⟩, ⟨y9_2, y9_2b⟩, ⟨y9_3, y9_3b⟩, -⟩ := id (z8).2.1
        obtain ⟨⟨f10_0, g10_0⟩, ⟨f10_1, g10_1⟩, ⟨f10_2, g10_2⟩, ⟨f10_3, g10_3⟩, ⟨f10_4, g10_4⟩, ⟨f10_5, g10_5⟩, ⟨f10_6, g10_6⟩, ⟨f10_7, g10_7⟩, ⟨f10_8, g10_8⟩, ⟨f10_9, g10_9⟩, ⟨f10_10, g10_10⟩, ⟨f10_11, g10_11⟩, ⟨f10_12, g10_12⟩, ⟨f10_13, g10_13⟩⟩ := id (z8).1
        refine k_iconst (v := 0) dX8_enrolNow_45 rfl ?_
        refine k_istore_n (ls' := [(0, .ref 123), (1, .int (iI (p))), (2, .int (iI (0)))]) dX8_enrolNow_46 rfl (by decide) rfl rfl ?_
        refine k_eqσ (σ' := (k_up (m_findsPlacement σ p) 124 ((m_findsPlacement σ p) 124))) ((show k_up (m_findsPlacement σ p) 124 ((m_findsPlacement σ p) 124) = (k_up (m_findsPlacement σ p) 124 ((m_findsPlacement σ p) 124)) from rfl).symm.trans (k_up_self _ _)) ?_
        refine k_loop (α := (Nat → Int)) (P := fun (i47 : Nat) (x47 : (Nat → Int)) Q => k_V E mX8_enrolNow _ 47 [(0, .ref 123), (1, .int (iI (p))), (2, .int (iI ((i47 : Int))))] [] sh (k_up (m_findsPlacement σ p) 124 x47) _ _ Q) (J := fun (i47 : Nat) (x47 : (Nat → Int)) => (k_Mo x47)) (4) (b_enrolNow_47 σ p) (((m_findsPlacement σ p) 124)) (F := fun t => (k_pP sh R_enrolNow) ((r_enrolNow_47 σ p) t)) (show (k_Mo ((m_findsPlacement σ p) 124)) from (z8).2.1) ?_ ?_
        · intro x47 hJ47
          have hJ47 : (k_Mo x47) := hJ47
          have hW47_124 := hJ47
          show k_V E mX8_enrolNow _ 47 [(0, .ref 123), (1, .int (iI (p))), (2, .int (iI (((4 : Nat) : Int))))] [] sh (k_up (m_findsPlacement σ p) 124 x47) _ _ ((k_pP sh R_enrolNow) ((r_enrolNow_47 σ p) x47))
          unfold r_enrolNow_47
          refine k_iload_n dX8_enrolNow_47 2 rfl rfl ?_
          refine k_iconst (v := 4) dX8_enrolNow_48 rfl ?_
          refine k_icmp_ge (tgt := 109) dX8_enrolNow_49 rfl ⟨by omega, by omega⟩ ⟨by decide, by decide⟩ (fun h12 => ?_) (fun h12 => absurd h12 (by omega))
          refine k_aload_n dX8_enrolNow_109 0 rfl rfl (by decide) ?_
          refine k_get (kf := 19) (v := .int (iI (((m_findsPlacement σ p) 123) 19))) dX8_enrolNow_110 kcX8 w_1766 (by decide) (by decide) (s_123 hsh) rfl rfl ?_
          refine k_iconst (v := 2) dX8_enrolNow_113 rfl ?_
          have q13 := z_half_r (x := ((m_findsPlacement σ p) 123) 19) (by omega)
          refine k_idiv (v := (iI ((((m_findsPlacement σ p) 123) 19).tdiv 2))) dX8_enrolNow_114 (by decide) (z_tdivI ⟨by omega, by omega⟩ (by decide) (by decide)) ?_
          exact k_retiP dX8_enrolNow_115 rfl rfl rfl (show (-1 ≤ (((m_findsPlacement σ p) 123) 19).tdiv 2 ∧ (((m_findsPlacement σ p) 123) 19).tdiv 2 ≤ 1000) ∧ k_MA (k_up (m_findsPlacement σ p) 124 x47) from ⟨by omega, ⟨(z8).1, hW47_124, (z8).2.2.1, (z8).2.2.2.1, (z8).2.2.2.2.1, (z8).2.2.2.2.2.1, (z8).2.2.2.2.2.2.1, (z8).2.2.2.2.2.2.2.1, (z8).2.2.2.2.2.2.2.2.1, (z8).2.2.2.2.2.2.2.2.2.1, (z8).2.2.2.2.2.2.2.2.2.2.1, (z8).2.2.2.2.2.2.2.2.2.2.2.1, (z8).2.2.2.2.2.2.2.2.2.2.2.2⟩⟩)
        · intro n47 i47 x47 hi47 hJ47 ih47
          have hJ47 : (k_Mo x47) := hJ47
          have hW47_124 := hJ47
          show k_V E mX8_enrolNow _ 47 [(0, .ref 123), (1, .int (iI (p))), (2, .int (iI ((i47 : Int))))] [] sh (k_up (m_findsPlacement σ p) 124 x47) _ _ ((fun t => (k_pP sh R_enrolNow) ((r_enrolNow_47 σ p) (k_it (b_enrolNow_47 σ p) n47 (i47 + 1) t))) ((b_enrolNow_47 σ p) i47 x47))
          unfold b_enrolNow_47
          refine k_iload_n dX8_enrolNow_47 2 rfl rfl ?_
          refine k_iconst (v := 4) dX8_enrolNow_48 rfl ?_
          refine k_icmp_ge (tgt := 109) dX8_enrolNow_49 rfl ⟨by omega, by omega⟩ ⟨by decide, by decide⟩ (fun h14 => absurd h14 (by omega)) (fun h14 => ?_)
          refine k_aload_n dX8_enrolNow_52 0 rfl rfl (by decide) ?_
          refine k_get (kf := 18) (v := .ref 132) dX8_enrolNow_53 kcX8 w_1765 (by decide) (by decide) (s_123 hsh) rfl rfl ?_
          refine k_iload_n dX8_enrolNow_56 2 rfl rfl ?_
          refine k_iald dX8_enrolNow_57 (by decide) (s_132 hsh) (by omega) (by omega) (by decide) ?_
          refine k_eqst (st' := [.int (iI (((m_findsPlacement σ p) 132) ((i47 : Int)).toNat))]) rfl ?_
          have q15 := (z8).2.2.2.2.2.1 ((i47 : Int)).toNat
          refine k_iconst (v := 4) dX8_enrolNow_58 rfl ?_
          refine k_icmp_ge (tgt := 103) dX8_enrolNow_59 rfl ⟨by omega, by omega⟩ ⟨by decide, by decide⟩ (fun h16 => ?_) (fun h16 => ?_)
          · refine k_iff (F := (fun t => (k_pP sh R_enrolNow) ((r_enrolNow_47 σ p) (k_it (b_enrolNow_47 σ p) n47 (i47 + 1) t)))) (Int.not_lt.mpr h16) ?_
            refine k_iinc (ls' := [(0, .ref 123), (1, .int (iI (p))), (2, .int (iI ((i47 : Int) + 1)))]) dX8_enrolNow_103 2 rfl (by decide) rfl rfl ?_
            refine k_goto (tgt := 47) dX8_enrolNow_106 rfl ?_
            exact ih47 (x47) (show (k_Mo x47) from hW47_124)
          · refine k_ift (F := (fun t => (k_pP sh R_enrolNow) ((r_enrolNow_47 σ p) (k_it (b_enrolNow_47 σ p) n47 (i47 + 1) t)))) h16 ?_
            refine k_aload_n dX8_enrolNow_62 0 rfl rfl (by decide) ?_
            refine k_get (kf := 0) (v := .ref 124) dX8_enrolNow_63 kcX8 w_1747 (by decide) (by decide) (s_123 hsh) rfl rfl ?_
            refine k_bipush (v := 105) dX8_enrolNow_66 (by decide) ?_
            refine k_iconst (v := 4) dX8_enrolNow_68 rfl ?_
            refine k_iload_n dX8_enrolNow_69 1 rfl rfl ?_
            refine k_imul dX8_enrolNow_70 ?_
            refine k_iadd dX8_enrolNow_71 ?_
            refine k_aload_n dX8_enrolNow_72 0 rfl rfl (by decide) ?_
            refine k_get (kf := 18) (v := .ref 132) dX8_enrolNow_73 kcX8 w_1765 (by decide) (by decide) (s_123 hsh) rfl rfl ?_
            refine k_iload_n dX8_enrolNow_76 2 rfl rfl ?_
            refine k_iald dX8_enrolNow_77 (by decide) (s_132 hsh) (by omega) (by omega) (by decide) ?_
            refine k_eqst (st' := [.int (iI (((m_findsPlacement σ p) 132) ((i47 : Int)).toNat)), .int (iI (105 + (4 * p))), .ref 124]) rfl ?_
            have q17 := (z8).2.2.2.2.2.1 ((i47 : Int)).toNat
            refine k_iadd dX8_enrolNow_78 ?_
            refine k_iload_n dX8_enrolNow_79 2 rfl rfl ?_
            refine k_iconst (v := 3) dX8_enrolNow_80 rfl ?_
            refine k_icmp_ne (tgt := 96) dX8_enrolNow_81 rfl ⟨by omega, by omega⟩ ⟨by decide, by decide⟩ (fun h18 => ?_) (fun h18 => ?_)
            · refine k_iff (F := (fun t => (k_pP sh R_enrolNow) ((r_enrolNow_47 σ p) (k_it (b_enrolNow_47 σ p) n47 (i47 + 1) t)))) h18 ?_
              refine k_aload_n dX8_enrolNow_96 0 rfl rfl (by decide) ?_
              refine k_iload_n dX8_enrolNow_97 1 rfl rfl ?_
              refine k_iload_n dX8_enrolNow_98 2 rfl rfl ?_
              refine k_callVr (st := [.int (iI ((105 + (4 * p)) + (((m_findsPlacement σ p) 132) ((i47 : Int)).toNat))), .ref 124]) (as := [.int (iI (p)), .int (iI ((i47 : Int)))]) dX8_enrolNow_99 oX8_wish w_2000 w_2002 w_51 rfl (by omega) rfl (Nat.le_of_ble_eq_true rfl) (by decide) (s_123 hsh) rfl (c8_wish (σ := (k_up (m_findsPlacement σ p) 124 x47)) hsh hW47_124 (by omega) (by omega)) ?_
              refine k_eqst (st' := [.int (iI (x47 (57 + 3 * p + (i47 : Int)).toNat)), .int (iI ((105 + (4 * p)) + (((m_findsPlacement σ p) 132) ((i47 : Int)).toNat))), .ref 124]) rfl ?_
              have q19 := k_Mo_wish hW47_124 (x := 57 + 3 * p + (i47 : Int)) (by omega) (by omega)
              refine k_iastW dX8_enrolNow_102 (by decide) (s_124 hsh) (by omega) (by omega) (by decide) ?_
              refine k_eqσ (σ' := (k_up (m_findsPlacement σ p) 124 (k_u1 x47 ((105 + (4 * p)) + (((m_findsPlacement σ p) 132) ((i47 : Int)).toNat)).toNat (x47 (57 + 3 * p + (i47 : Int)).toNat)))) (show k_up (k_up (m_findsPlacement σ p) 124 x47) 124 (k_u1 x47 ((105 + (4 * p)) + (((m_findsPlacement σ p) 132) ((i47 : Int)).toNat)).toNat (x47 (57 + 3 * p + (i47 : Int)).toNat)) = _ from k_up_up).symm ?_
              refine k_iinc (ls' := [(0, .ref 123), (1, .int (iI (p))), (2, .int (iI ((i47 : Int) + 1)))]) dX8_enrolNow_103 2 rfl (by decide) rfl rfl ?_
              refine k_goto (tgt := 47) dX8_enrolNow_106 rfl ?_
              exact ih47 ((k_u1 x47 ((105 + (4 * p)) + (((m_findsPlacement σ p) 132) ((i47 : Int)).toNat)).toNat (x47 (57 + 3 * p + (i47 : Int)).toNat))) (show (k_Mo (k_u1 x47 ((105 + (4 * p)) + (((m_findsPlacement σ p) 132) ((i47 : Int)).toNat)).toNat (x47 (57 + 3 * p + (i47 : Int)).toNat))) from (show k_Mo (k_u1 x47 ((105 + (4 * p)) + (((m_findsPlacement σ p) 132) ((i47 : Int)).toNat)).toNat (x47 (57 + 3 * p + (i47 : Int)).toNat)) from (k_Mo_u hW47_124 (by omega))))
            · refine k_ift (F := (fun t => (k_pP sh R_enrolNow) ((r_enrolNow_47 σ p) (k_it (b_enrolNow_47 σ p) n47 (i47 + 1) t)))) h18 ?_
              refine k_aload_n dX8_enrolNow_84 0 rfl rfl (by decide) ?_
              refine k_get (kf := 0) (v := .ref 124) dX8_enrolNow_85 kcX8 w_1747 (by decide) (by decide) (s_123 hsh) rfl rfl ?_
              refine k_bipush (v := 93) dX8_enrolNow_88 (by decide) ?_
              refine k_iload_n dX8_enrolNow_90 1 rfl rfl ?_
              refine k_iadd dX8_enrolNow_91 ?_
              refine k_iald dX8_enrolNow_92 (by decide) (s_124 hsh) (by omega) (by omega) (by decide) ?_
              refine k_eqst (st' := [.int (iI (x47 (93 + p).toNat)), .int (iI ((105 + (4 * p)) + (((m_findsPlacement σ p) 132) ((i47 : Int)).toNat))), .ref 124]) rfl ?_
              have q21 := k_Mo_res hW47_124 (x := 93 + p) (by omega) (by omega)
              refine k_goto (tgt := 102) dX8_enrolNow_93 rfl ?_
              refine k_iastW dX8_enrolNow_102 (by decide) (s_124 hsh) (by omega) (by omega) (by decide) ?_
              refine k_eqσ (σ' := (k_up (m_findsPlacement σ p) 124 (k_u1 x47 ((105 + (4 * p)) + (((m_findsPlacement σ p) 132) ((i47 : Int)).toNat)).toNat (x47 (93 + p).toNat)))) (show k_up (k_up (m_findsPlacement σ p) 124 x47) 124 (k_u1 x47 ((105 + (4 * p)) + (((m_findsPlacement σ p) 132) ((i47 : Int)).toNat)).toNat (x47 (93 + p).toNat)) = _ from k_up_up).symm ?_
              refine k_iinc (ls' := [(0, .ref 123), (1, .int (iI (p))), (2, .int (iI ((i47 : Int) + 1)))]) dX8_enrolNow_103 2 rfl (by decide) rfl rfl ?_
              refine k_goto (tgt := 47) dX8_enrolNow_106 rfl ?_
              exact ih47 ((k_u1 x47 ((105 + (4 * p)) + (((m_findsPlacement σ p) 132) ((i47 : Int)).toNat)).toNat (x47 (93 + p).toNat))) (show (k_Mo (k_u1 x47 ((105 + (4 * p)) + (((m_findsPlacement σ p) 132) ((i47 : Int)).toNat)).toNat (x47 (93 + p).toNat))) from (show k_Mo (k_u1 x47 ((105 + (4 * p)) + (((m_findsPlacement σ p) 132) ((i47 : Int)).toNat)).toNat (x47 (93 + p).toNat)) from (k_Mo_u hW47_124 (by omega))))
      · refine k_ift (F := (k_pP sh R_enrolNow)) h7 ?_
        refine k_aload_n dX8_enrolNow_34 0 rfl rfl (by decide) ?_
        refine k_iconst (v := 3) dX8_enrolNow_35 rfl ?_
        refine k_callVr (st := []) (as := [.int (iI (3))]) dX8_enrolNow_36 oX8_bad w_1884 w_1886 w_35 rfl (by omega) rfl (Nat.le_of_ble_eq_true rfl) (by decide) (s_123 hsh) rfl (c8_bad hsh) ?_
        refine k_eqσ (σ' := (k_up σ 123 (k_u1 (σ 123) 8 (3)))) ((show k_up σ 123 (k_u1 (σ 123) 8 (3)) = (k_up σ 123 (k_u1 (σ 123) 8 (3))) from rfl)).symm ?_
        exact k_retiP dX8_enrolNow_39 rfl rfl rfl (show (-1 ≤ (0 : Int) ∧ (0 : Int) ≤ 1000) ∧ k_MA (k_up σ 123 (k_u1 (σ 123) 8 (3))) from ⟨by omega, ⟨(show k_F0 (k_u1 (σ 123) 8 (3)) from (k_F0_u (hMA).1 (by omega))), (hMA).2.1, (hMA).2.2.1, (hMA).2.2.2.1, (hMA).2.2.2.2.1, (hMA).2.2.2.2.2.1, (hMA).2.2.2.2.2.2.1, (hMA).2.2.2.2.2.2.2.1, (hMA).2.2.2.2.2.2.2.2.1, (hMA).2.2.2.2.2.2.2.2.2.1, (hMA).2.2.2.2.2.2.2.2.2.2.1, (hMA).2.2.2.2.2.2.2.2.2.2.2.1, (hMA).2.2.2.2.2.2.2.2.2.2.2.2⟩⟩)
  · have h2 := zb_0.mp h2
    refine k_iff (F := (k_pP sh R_enrolNow)) h2 ?_
    refine k_aload_n dX8_enrolNow_8 0 rfl rfl (by decide) ?_
    refine k_iconst (v := 1) dX8_enrolNow_9 rfl ?_
    refine k_callVr (st := []) (as := [.int (iI (1))]) dX8_enrolNow_10 oX8_bad w_1884 w_1886 w_35 rfl (by omega) rfl (Nat.le_of_ble_eq_true rfl) (by decide) (s_123 hsh) rfl (c8_bad hsh) ?_
    refine k_eqσ (σ' := (k_up σ 123 (k_u1 (σ 123) 8 (1)))) ((show k_up σ 123 (k_u1 (σ 123) 8 (1)) = (k_up σ 123 (k_u1 (σ 123) 8 (1))) from rfl)).symm ?_
    exact k_retiP dX8_enrolNow_13 rfl rfl rfl (show (-1 ≤ (0 : Int) ∧ (0 : Int) ≤ 1000) ∧ k_MA (k_up σ 123 (k_u1 (σ 123) 8 (1))) from ⟨by omega, ⟨(show k_F0 (k_u1 (σ 123) 8 (1)) from (k_F0_u (hMA).1 (by omega))), (hMA).2.1, (hMA).2.2.1, (hMA).2.2.2.1, (hMA).2.2.2.2.1, (hMA).2.2.2.2.2.1, (hMA).2.2.2.2.2.2.1, (hMA).2.2.2.2.2.2.2.1, (hMA).2.2.2.2.2.2.2.2.1, (hMA).2.2.2.2.2.2.2.2.2.1, (hMA).2.2.2.2.2.2.2.2.2.2.1, (hMA).2.2.2.2.2.2.2.2.2.2.2.1, (hMA).2.2.2.2.2.2.2.2.2.2.2.2⟩⟩)
abbrev R_withdrawNow (t : Int × (Nat → Nat → Int)) : Prop := (-1 ≤ t.1 ∧ t.1 ≤ 1000) ∧ k_MA t.2
def r_withdrawNow_32 (σ : Nat → Nat → Int) (p : Int) (x32 : (Nat → Int)) : Int × (Nat → Nat → Int) := (m_classesOf (σ 124) p, (k_up σ 124 x32))
def b_withdrawNow_32 (σ : Nat → Nat → Int) (p : Int) (i32 : Nat) (x32 : (Nat → Int)) : (Nat → Int) := (k_u1 x32 ((105 + (4 * p)) + ((i32 : Int))).toNat (-1))
def m_withdrawNow (σ : Nat → Nat → Int) (p : Int) : Int × (Nat → Nat → Int) := if 0 ≤ p ∧ p < (σ 124) 2 then if (m_classesOf (σ 124) p) = 0 then (0, (k_up σ 123 (k_u1 (σ 123) 8 (3)))) else (r_withdrawNow_32 σ p) (k_it (b_withdrawNow_32 σ p) (4) 0 ((σ 124))) else (0, (k_up σ 123 (k_u1 (σ 123) 8 (1))))
set_option maxRecDepth 100000 in
set_option maxHeartbeats 4000000 in
theorem c8_withdrawNow (hsh : k_Main sh) (hMA : k_MA σ) {p : Int} (h_p : -2147483648 ≤ p ∧ p < 2147483648) : k_C E mX8_withdrawNow 3 [.ref 123, .int (iI (p))] sh σ 0 0 ((k_pP sh R_withdrawNow) (m_withdrawNow σ p)) := by
  refine k_C_of (ls0 := [(0, .ref 123), (1, .int (iI (p)))]) rfl pnX8 (fun v hv => k_cat1 rfl hv) (Nat.le_of_ble_eq_true rfl) rfl ?_
  obtain ⟨⟨t0, t0b⟩, ⟨t1, t1b⟩, ⟨t2, t2b⟩, ⟨t3, t3b⟩, -⟩ := id hMA.2.1
  obtain ⟨⟨f10_0, g10_0⟩, ⟨f10_1, g10_1⟩, ⟨f10_2, g10_2⟩, ⟨f10_3, g10_3⟩, ⟨f10_4, g10_4⟩, ⟨f10_5, g10_5⟩, ⟨f10_6, g10_6⟩, ⟨f10_7, g10_7⟩, ⟨f10_8, g10_8⟩, ⟨f10_9, g10_9⟩, ⟨f10_10, g10_10⟩, ⟨f10_11, g10_11⟩, ⟨f10_12, g10_12⟩, ⟨f10_13, g10_13⟩⟩ := id hMA.1
  unfold m_withdrawNow
  refine k_aload_n dX8_withdrawNow_0 0 rfl rfl (by decide) ?_
  refine k_iload_n dX8_withdrawNow_1 1 rfl rfl ?_
  refine k_callVr (st := []) (as := [.int (iI (p))]) dX8_withdrawNow_2 oX8_isPupil w_1992 w_1994 w_49 rfl (by omega) rfl (Nat.le_of_ble_eq_true rfl) (by decide) (s_123 hsh) rfl (c8_isPupil (σ := σ) hsh (hMA).2.1 ⟨by omega, by omega⟩) ?_
  refine k_if_ne (tgt := 14) dX8_withdrawNow_5 rfl (zb_kr _) (fun h2 => ?_) (fun h2 => ?_)
  · have h2 := zb_n0.mp h2
    refine k_ift (F := (k_pP sh R_withdrawNow)) h2 ?_
    refine k_aload_n dX8_withdrawNow_14 0 rfl rfl (by decide) ?_
    refine k_iload_n dX8_withdrawNow_15 1 rfl rfl ?_
    refine k_callVrP (st := []) (as := [.int (iI (p))]) dX8_withdrawNow_16 oX8_classesOf w_2044 w_2046 w_55 rfl (by omega) rfl (Nat.le_of_ble_eq_true rfl) (by decide) (s_123 hsh) rfl (c8_classesOf hsh (hMA).2.1 (by omega)) (fun z3 => ?_)
    have z3 : 0 ≤ m_classesOf (σ 124) p ∧ m_classesOf (σ 124) p ≤ 4 := z3
    refine k_istore_n (ls' := [(0, .ref 123), (1, .int (iI (p))), (2, .int (iI (m_classesOf (σ 124) p)))]) dX8_withdrawNow_19 rfl (by decide) rfl rfl ?_
    refine k_iload_n dX8_withdrawNow_20 2 rfl rfl ?_
    refine k_if_ne (tgt := 30) dX8_withdrawNow_21 rfl ⟨by omega, by omega⟩ (fun h4 => ?_) (fun h4 => ?_)
    · refine k_iff (F := (k_pP sh R_withdrawNow)) h4 ?_
      refine k_iconst (v := 0) dX8_withdrawNow_30 rfl ?_
      refine k_istore_n (ls' := [(0, .ref 123), (1, .int (iI (p))), (2, .int (iI (m_classesOf (σ 124) p))), (3, .int (iI (0)))]) dX8_withdrawNow_31 rfl (by decide) rfl rfl ?_
      refine k_eqσ (σ' := (k_up σ 124 (σ 124))) ((show k_up σ 124 (σ 124) = (k_up σ 124 (σ 124)) from rfl).symm.trans (k_up_self _ _)) ?_
      refine k_loop (α := (Nat → Int)) (P := fun (i32 : Nat) (x32 : (Nat → Int)) Q => k_V E mX8_withdrawNow _ 32 [(0, .ref 123), (1, .int (iI (p))), (2, .int (iI (m_classesOf (σ 124) p))), (3, .int (iI ((i32 : Int))))] [] sh (k_up σ 124 x32) _ _ Q) (J := fun (i32 : Nat) (x32 : (Nat → Int)) => (k_Mo x32)) (4) (b_withdrawNow_32 σ p) ((σ 124)) (F := fun t => (k_pP sh R_withdrawNow) ((r_withdrawNow_32 σ p) t)) (show (k_Mo (σ 124)) from (hMA).2.1) ?_ ?_
      · intro x32 hJ32
        have hJ32 : (k_Mo x32) := hJ32
        have hW32_124 := hJ32
        show k_V E mX8_withdrawNow _ 32 [(0, .ref 123), (1, .int (iI (p))), (2, .int (iI (m_classesOf (σ 124) p))), (3, .int (iI (((4 : Nat) : Int))))] [] sh (k_up σ 124 x32) _ _ ((k_pP sh R_withdrawNow) ((r_withdrawNow_32 σ p) x32))
        unfold r_withdrawNow_32
        refine k_iload_n dX8_withdrawNow_32 3 rfl rfl ?_
        refine k_iconst (v := 4) dX8_withdrawNow_33 rfl ?_
        refine k_icmp_ge (tgt := 57) dX8_withdrawNow_34 rfl ⟨by omega, by omega⟩ ⟨by decide, by decide⟩ (fun h6 => ?_) (fun h6 => absurd h6 (by omega))
        refine k_iload_n dX8_withdrawNow_57 2 rfl rfl ?_
        exact k_retiP dX8_withdrawNow_58 rfl rfl rfl (show (-1 ≤ m_classesOf (σ 124) p ∧ m_classesOf (σ 124) p ≤ 1000) ∧ k_MA (k_up σ 124 x32) from ⟨by omega, ⟨(hMA).1, hW32_124, (hMA).2.2.1, (hMA).2.2.2.1, (hMA).2.2.2.2.1, (hMA).2.2.2.2.2.1, (hMA).2.2.2.2.2.2.1, (hMA).2.2.2.2.2.2.2.1, (hMA).2.2.2.2.2.2.2.2.1, (hMA).2.2.2.2.2.2.2.2.2.1, (hMA).2.2.2.2.2.2.2.2.2.2.1, (hMA).2.2.2.2.2.2.2.2.2.2.2.1, (hMA).2.2.2.2.2.2.2.2.2.2.2.2⟩⟩)
      · intro n32 i32 x32 hi32 hJ32 ih32
        have hJ32 : (k_Mo x32) := hJ32
        have hW32_124 := hJ32
        show k_V E mX8_withdrawNow _ 32 [(0, .ref 123), (1, .int (iI (p))), (2, .int (iI (m_classesOf (σ 124) p))), (3, .int (iI ((i32 : Int))))] [] sh (k_up σ 124 x32) _ _ ((fun t => (k_pP sh R_withdrawNow) ((r_withdrawNow_32 σ p) (k_it (b_withdrawNow_32 σ p) n32 (i32 + 1) t))) ((b_withdrawNow_32 σ p) i32 x32))
        unfold b_withdrawNow_32
        refine k_iload_n dX8_withdrawNow_32 3 rfl rfl ?_
        refine k_iconst (v := 4) dX8_withdrawNow_33 rfl ?_
        refine k_icmp_ge (tgt := 57) dX8_withdrawNow_34 rfl ⟨by omega, by omega⟩ ⟨by decide, by decide⟩ (fun h7 => absurd h7 (by omega)) (fun h7 => ?_)
        refine k_aload_n dX8_withdrawNow_37 0 rfl rfl (by decide) ?_
        refine k_get (kf := 0) (v := .ref 124) dX8_withdrawNow_38 kcX8 w_1747 (by decide) (by decide) (s_123 hsh) rfl rfl ?_
        refine k_bipush (v := 105) dX8_withdrawNow_41 (by decide) ?_
        refine k_iconst (v := 4) dX8_withdrawNow_43 rfl ?_
        refine k_iload_n dX8_withdrawNow_44 1 rfl rfl ?_
        refine k_imul dX8_withdrawNow_45 ?_
        refine k_iadd dX8_withdrawNow_46 ?_
        refine k_iload_n dX8_withdrawNow_47 3 rfl rfl ?_
        refine k_iadd dX8_withdrawNow_48 ?_
        refine k_iconst (v := (-1)) dX8_withdrawNow_49 rfl ?_
        refine k_iastW dX8_withdrawNow_50 (by decide) (s_124 hsh) (by omega) (by omega) (by decide) ?_
        refine k_eqσ (σ' := (k_up σ 124 (k_u1 x32 ((105 + (4 * p)) + ((i32 : Int))).toNat (-1)))) (show k_up (k_up σ 124 x32) 124 (k_u1 x32 ((105 + (4 * p)) + ((i32 : Int))).toNat (-1)) = _ from k_up_up).symm ?_
        refine k_iinc (ls' := [(0, .ref 123), (1, .int (iI (p))), (2, .int (iI (m_classesOf (σ 124) p))), (3, .int (iI ((i32 : Int) + 1)))]) dX8_withdrawNow_51 3 rfl (by decide) rfl rfl ?_
        refine k_goto (tgt := 32) dX8_withdrawNow_54 rfl ?_
        exact ih32 ((k_u1 x32 ((105 + (4 * p)) + ((i32 : Int))).toNat (-1))) (show (k_Mo (k_u1 x32 ((105 + (4 * p)) + ((i32 : Int))).toNat (-1))) from (show k_Mo (k_u1 x32 ((105 + (4 * p)) + ((i32 : Int))).toNat (-1)) from (k_Mo_u hW32_124 (by omega))))
    · refine k_ift (F := (k_pP sh R_withdrawNow)) h4 ?_
      refine k_aload_n dX8_withdrawNow_24 0 rfl rfl (by decide) ?_
      refine k_iconst (v := 3) dX8_withdrawNow_25 rfl ?_
      refine k_callVr (st := []) (as := [.int (iI (3))]) dX8_withdrawNow_26 oX8_bad w_1884 w_1886 w_35 rfl (by omega) rfl (Nat.le_of_ble_eq_true rfl) (by decide) (s_123 hsh) rfl (c8_bad hsh) ?_
      refine k_eqσ (σ' := (k_up σ 123 (k_u1 (σ 123) 8 (3)))) ((show k_up σ 123 (k_u1 (σ 123) 8 (3)) = (k_up σ 123 (k_u1 (σ 123) 8 (3))) from rfl)).symm ?_
      exact k_retiP dX8_withdrawNow_29 rfl rfl rfl (show (-1 ≤ (0 : Int) ∧ (0 : Int) ≤ 1000) ∧ k_MA (k_up σ 123 (k_u1 (σ 123) 8 (3))) from ⟨by omega, ⟨(show k_F0 (k_u1 (σ 123) 8 (3)) from (k_F0_u (hMA).1 (by omega))), (hMA).2.1, (hMA).2.2.1, (hMA).2.2.2.1, (hMA).2.2.2.2.1, (hMA).2.2.2.2.2.1, (hMA).2.2.2.2.2.2.1, (hMA).2.2.2.2.2.2.2.1, (hMA).2.2.2.2.2.2.2.2.1, (hMA).2.2.2.2.2.2.2.2.2.1, (hMA).2.2.2.2.2.2.2.2.2.2.1, (hMA).2.2.2.2.2.2.2.2.2.2.2.1, (hMA).2.2.2.2.2.2.2.2.2.2.2.2⟩⟩)
  · have h2 := zb_0.mp h2
    refine k_iff (F := (k_pP sh R_withdrawNow)) h2 ?_
    refine k_aload_n dX8_withdrawNow_8 0 rfl rfl (by decide) ?_
    refine k_iconst (v := 1) dX8_withdrawNow_9 rfl ?_
    refine k_callVr (st := []) (as := [.int (iI (1))]) dX8_withdrawNow_10 oX8_bad w_1884 w_1886 w_35 rfl (by omega) rfl (Nat.le_of_ble_eq_true rfl) (by decide) (s_123 hsh) rfl (c8_bad hsh) ?_
    refine k_eqσ (σ' := (k_up σ 123 (k_u1 (σ 123) 8 (1)))) ((show k_up σ 123 (k_u1 (σ 123) 8 (1)) = (k_up σ 123 (k_u1 (σ 123) 8 (1))) from rfl)).symm ?_
    exact k_retiP dX8_withdrawNow_13 rfl rfl rfl (show (-1 ≤ (0 : Int) ∧ (0 : Int) ≤ 1000) ∧ k_MA (k_up σ 123 (k_u1 (σ 123) 8 (1))) from ⟨by omega, ⟨(show k_F0 (k_u1 (σ 123) 8 (1)) from (k_F0_u (hMA).1 (by omega))), (hMA).2.1, (hMA).2.2.1, (hMA).2.2.2.1, (hMA).2.2.2.2.1, (hMA).2.2.2.2.2.1, (hMA).2.2.2.2.2.2.1, (hMA).2.2.2.2.2.2.2.1, (hMA).2.2.2.2.2.2.2.2.1, (hMA).2.2.2.2.2.2.2.2.2.1, (hMA).2.2.2.2.2.2.2.2.2.2.1, (hMA).2.2.2.2.2.2.2.2.2.2.2.1, (hMA).2.2.2.2.2.2.2.2.2.2.2.2⟩⟩)
abbrev R_bestValue (t : Int × (Nat → Nat → Int)) : Prop := (-1 ≤ t.1 ∧ t.1 ≤ 1000) ∧ k_MA t.2
def m_bestValue (σ : Nat → Nat → Int) (p : Int) : Int × (Nat → Nat → Int) := if 0 ≤ p ∧ p < (σ 124) 2 then ((((m_findsPlacement σ p) 123) 19).tdiv 2, (k_up (m_findsPlacement σ p) 123 (k_u1 ((m_findsPlacement σ p) 123) 7 (0)))) else (0, (k_up σ 123 (k_u1 (σ 123) 7 (1))))
set_option maxRecDepth 100000 in
set_option maxHeartbeats 4000000 in
theorem c8_bestValue (hsh : k_Main sh) (hMA : k_MA σ) {p : Int} (h_p : -2147483648 ≤ p ∧ p < 2147483648) : k_C E mX8_bestValue 6 [.ref 123, .int (iI (p))] sh σ 0 0 ((k_pP sh R_bestValue) (m_bestValue σ p)) := by
  refine k_C_of (ls0 := [(0, .ref 123), (1, .int (iI (p)))]) rfl pnX8 (fun v hv => k_cat1 rfl hv) (Nat.le_of_ble_eq_true rfl) rfl ?_
  obtain ⟨⟨t0, t0b⟩, ⟨t1, t1b⟩, ⟨t2, t2b⟩, ⟨t3, t3b⟩, -⟩ := id hMA.2.1
  obtain ⟨⟨f9_0, g9_0⟩, ⟨f9_1, g9_1⟩, ⟨f9_2, g9_2⟩, ⟨f9_3, g9_3⟩, ⟨f9_4, g9_4⟩, ⟨f9_5, g9_5⟩, ⟨f9_6, g9_6⟩, ⟨f9_7, g9_7⟩, ⟨f9_8, g9_8⟩, ⟨f9_9, g9_9⟩, ⟨f9_10, g9_10⟩, ⟨f9_11, g9_11⟩, ⟨f9_12, g9_12⟩, ⟨f9_13, g9_13⟩⟩ := id hMA.1
  unfold m_bestValue
  refine k_aload_n dX8_bestValue_0 0 rfl rfl (by decide) ?_
  refine k_iload_n dX8_bestValue_1 1 rfl rfl ?_
  refine k_callVr (st := []) (as := [.int (iI (p))]) dX8_bestValue_2 oX8_isPupil w_1992 w_1994 w_49 rfl (by omega) rfl (Nat.le_of_ble_eq_true rfl) (by decide) (s_123 hsh) rfl (c8_isPupil (σ := σ) hsh (hMA).2.1 ⟨by omega, by omega⟩) ?_
  refine k_if_ne (tgt := 14) dX8_bestValue_5 rfl (zb_kr _) (fun h2 => ?_) (fun h2 => ?_)
  · have h2 := zb_n0.mp h2
    refine k_ift (F := (k_pP sh R_bestValue)) h2 ?_
    refine k_aload_n dX8_bestValue_14 0 rfl rfl (by decide) ?_
    refine k_iload_n dX8_bestValue_15 1 rfl rfl ?_
    refine k_callVrP (st := []) (as := [.int (iI (p))]) dX8_bestValue_16 oX8_findsPlacement w_2048 w_2050 w_56 rfl (by omega) rfl (Nat.le_of_ble_eq_true rfl) (by decide) (s_123 hsh) rfl (c8_findsPlacement hsh (show k_MA σ from ⟨(hMA).1, (hMA).2.1, (hMA).2.2.1, (hMA).2.2.2.1, (hMA).2.2.2.2.1, (hMA).2.2.2.2.2.1, (hMA).2.2.2.2.2.2.1, (hMA).2.2.2.2.2.2.2.1, (hMA).2.2.2.2.2.2.2.2.1, (hMA).2.2.2.2.2.2.2.2.2.1, (hMA).2.2.2.2.2.2.2.2.2.2.1, (hMA).2.2.2.2.2.2.2.2.2.2.2.1, (hMA).2.2.2.2.2.2.2.2.2.2.2.2⟩) (by omega)) (fun z3 => ?_)
    have z3 : k_MA (m_findsPlacement σ p) := z3
    obtain ⟨⟨y4_0, y4_0b⟩, ⟨y4_1, y4_1b⟩, ⟨y4_2, y4_2b⟩, ⟨y4_3, y4_3b⟩, -⟩ := id (z3).2.1
    obtain ⟨⟨f5_0, g5_0⟩, ⟨f5_1, g5_1⟩, ⟨f5_2, g5_2⟩, ⟨f5_3, g5_3⟩, ⟨f5_4, g5_4⟩, ⟨f5_5, g5_5⟩, ⟨f5_6, g5_6⟩, ⟨f5_7, g5_7⟩, ⟨f5_8, g5_8⟩, ⟨f5_9, g5_9⟩, ⟨f5_10, g5_10⟩, ⟨f5_11, g5_11⟩, ⟨f5_12, g5_12⟩, ⟨f5_13, g5_13⟩⟩ := id (z3).1
    refine k_aload_n dX8_bestValue_19 0 rfl rfl (by decide) ?_
    refine k_aload_n dX8_bestValue_20 0 rfl rfl (by decide) ?_
    refine k_get (kf := 19) (v := .int (iI (((m_findsPlacement σ p) 123) 19))) dX8_bestValue_21 kcX8 w_1766 (by decide) (by decide) (s_123 hsh) rfl rfl ?_
    refine k_iconst (v := 2) dX8_bestValue_24 rfl ?_
    have q6 := z_half_r (x := ((m_findsPlacement σ p) 123) 19) (by omega)
    refine k_idiv (v := (iI ((((m_findsPlacement σ p) 123) 19).tdiv 2))) dX8_bestValue_25 (by decide) (z_tdivI ⟨by omega, by omega⟩ (by decide) (by decide)) ?_
    refine k_callVr (st := []) (as := [.int (iI ((((m_findsPlacement σ p) 123) 19).tdiv 2))]) dX8_bestValue_26 oX8_tells w_1854 w_1856 w_32 rfl (by omega) rfl (Nat.le_of_ble_eq_true rfl) (by decide) (s_123 hsh) rfl (c8_tells hsh) ?_
    refine k_eqσ (σ' := (k_up (m_findsPlacement σ p) 123 (k_u1 ((m_findsPlacement σ p) 123) 7 (0)))) ((show k_up (m_findsPlacement σ p) 123 (k_u1 ((m_findsPlacement σ p) 123) 7 (0)) = (k_up (m_findsPlacement σ p) 123 (k_u1 ((m_findsPlacement σ p) 123) 7 (0))) from rfl)).symm ?_
    exact k_retiP dX8_bestValue_29 rfl rfl rfl (show (-1 ≤ (((m_findsPlacement σ p) 123) 19).tdiv 2 ∧ (((m_findsPlacement σ p) 123) 19).tdiv 2 ≤ 1000) ∧ k_MA (k_up (m_findsPlacement σ p) 123 (k_u1 ((m_findsPlacement σ p) 123) 7 (0))) from ⟨by omega, ⟨(show k_F0 (k_u1 ((m_findsPlacement σ p) 123) 7 (0)) from (k_F0_u (z3).1 (by omega))), (z3).2.1, (z3).2.2.1, (z3).2.2.2.1, (z3).2.2.2.2.1, (z3).2.2.2.2.2.1, (z3).2.2.2.2.2.2.1, (z3).2.2.2.2.2.2.2.1, (z3).2.2.2.2.2.2.2.2.1, (z3).2.2.2.2.2.2.2.2.2.1, (z3).2.2.2.2.2.2.2.2.2.2.1, (z3).2.2.2.2.2.2.2.2.2.2.2.1, (z3).2.2.2.2.2.2.2.2.2.2.2.2⟩⟩)
  · have h2 := zb_0.mp h2
    refine k_iff (F := (k_pP sh R_bestValue)) h2 ?_
    refine k_aload_n dX8_bestValue_8 0 rfl rfl (by decide) ?_
    refine k_iconst (v := 1) dX8_bestValue_9 rfl ?_
    refine k_callVr (st := []) (as := [.int (iI (1))]) dX8_bestValue_10 oX8_fails w_1850 w_1852 w_31 rfl (by omega) rfl (Nat.le_of_ble_eq_true rfl) (by decide) (s_123 hsh) rfl (c8_fails hsh) ?_
    refine k_eqσ (σ' := (k_up σ 123 (k_u1 (σ 123) 7 (1)))) ((show k_up σ 123 (k_u1 (σ 123) 7 (1)) = (k_up σ 123 (k_u1 (σ 123) 7 (1))) from rfl)).symm ?_
    exact k_retiP dX8_bestValue_13 rfl rfl rfl (show (-1 ≤ (0 : Int) ∧ (0 : Int) ≤ 1000) ∧ k_MA (k_up σ 123 (k_u1 (σ 123) 7 (1))) from ⟨by omega, ⟨(show k_F0 (k_u1 (σ 123) 7 (1)) from (k_F0_u (hMA).1 (by omega))), (hMA).2.1, (hMA).2.2.1, (hMA).2.2.2.1, (hMA).2.2.2.2.1, (hMA).2.2.2.2.2.1, (hMA).2.2.2.2.2.2.1, (hMA).2.2.2.2.2.2.2.1, (hMA).2.2.2.2.2.2.2.2.1, (hMA).2.2.2.2.2.2.2.2.2.1, (hMA).2.2.2.2.2.2.2.2.2.2.1, (hMA).2.2.2.2.2.2.2.2.2.2.2.1, (hMA).2.2.2.2.2.2.2.2.2.2.2.2⟩⟩)
def z_set3 (v : Int) : Int := z_or (z_or (z_shr v 2) (z_and v 2)) (z_shl (z_and v 1) 2)
theorem z_set3_8 : (List.range 8).all (fun n => decide (0 ≤ z_set3 (n : Int) ∧ z_set3 (n : Int) < 8)) = true := by decide +kernel
theorem z_set3_r {v : Int} (h : 0 ≤ v ∧ v < 8) : 0 ≤ z_or (z_or (z_shr v 2) (z_and v 2)) (z_shl (z_and v 1) 2) ∧ z_or (z_or (z_shr v 2) (z_and v 2)) (z_shl (z_and v 1) 2) < 8 := by
  have h1 := of_decide_eq_true (List.all_eq_true.mp z_set3_8 v.toNat (List.mem_range.mpr (by omega)))
  rw [Int.toNat_of_nonneg h.1] at h1
  exact h1
abbrev R_bestValueBySets (t : Int × (Nat → Nat → Int)) : Prop := (-1 ≤ t.1 ∧ t.1 ≤ 1000) ∧ k_MA t.2
def r_bestValueBySets_31 (σ : Nat → Nat → Int) (p : Int) (x31 : Unit) : Int × (Nat → Nat → Int) := (0, (k_up σ 123 (k_u1 (σ 123) 7 (0))))
def b_bestValueBySets_31 (σ : Nat → Nat → Int) (p : Int) (i31 : Nat) (x31 : Unit) : (Int × (Nat → Nat → Int)) ⊕ (Unit) := if (z_diff (z_or (z_or (z_shr (7 - (i31 : Int)) (2)) (z_and (7 - (i31 : Int)) (2))) (z_shl (z_and (7 - (i31 : Int)) (1)) (2))) ((z_one ((σ 124) (45 + p).toNat)) - 1)) = 0 then if m_canPlace (σ 124) p (z_or (z_or (z_shr (7 - (i31 : Int)) (2)) (z_and (7 - (i31 : Int)) (2))) (z_shl (z_and (7 - (i31 : Int)) (1)) (2))) 1 = true then .inl ((7 - (i31 : Int), (k_up σ 123 (k_u1 (σ 123) 7 (0))))) else .inr (()) else .inr (())
def m_bestValueBySets (σ : Nat → Nat → Int) (p : Int) : Int × (Nat → Nat → Int) := if 0 ≤ p ∧ p < (σ 124) 2 then k_els (r_bestValueBySets_31 σ p) (k_for (b_bestValueBySets_31 σ p) (7) 0 ()) else (0, (k_up σ 123 (k_u1 (σ 123) 7 (1))))
set_option maxRecDepth 100000 in
set_option maxHeartbeats 4000000 in
theorem c8_bestValueBySets (hsh : k_Main sh) (hMA : k_MA σ) {p : Int} (h_p : -2147483648 ≤ p ∧ p < 2147483648) : k_C E mX8_bestValueBySets 6 [.ref 123, .int (iI (p))] sh σ 0 0 ((k_pP sh R_bestValueBySets) (m_bestValueBySets σ p)) := by
  refine k_C_of (ls0 := [(0, .ref 123), (1, .int (iI (p)))]) rfl pnX8 (fun v hv => k_cat1 rfl hv) (Nat.le_of_ble_eq_true rfl) rfl ?_
  obtain ⟨⟨t0, t0b⟩, ⟨t1, t1b⟩, ⟨t2, t2b⟩, ⟨t3, t3b⟩, -⟩ := id hMA.2.1
  obtain ⟨⟨f28_0, g28_0⟩, ⟨f28_1, g28_1⟩, ⟨f28_2, g28_2⟩, ⟨f28_3, g28_3⟩, ⟨f28_4, g28_4⟩, ⟨f28_5, g28_5⟩, ⟨f28_6, g28_6⟩, ⟨f28_7, g28_7⟩, ⟨f28_8, g28_8⟩, ⟨f28_9, g28_9⟩, ⟨f28_10, g28_10⟩, ⟨f28_11, g28_11⟩, ⟨f28_12, g28_12⟩, ⟨f28_13, g28_13⟩⟩ := id hMA.1
  unfold m_bestValueBySets
  refine k_aload_n dX8_bestValueBySets_0 0 rfl rfl (by decide) ?_
  refine k_iload_n dX8_bestValueBySets_1 1 rfl rfl ?_
  refine k_callVr (st := []) (as := [.int (iI (p))]) dX8_bestValueBySets_2 oX8_isPupil w_1992 w_1994 w_49 rfl (by omega) rfl (Nat.le_of_ble_eq_true rfl) (by decide) (s_123 hsh) rfl (c8_isPupil (σ := σ) hsh (hMA).2.1 ⟨by omega, by omega⟩) ?_
  refine k_if_ne (tgt := 14) dX8_bestValueBySets_5 rfl (zb_kr _) (fun h2 => ?_) (fun h2 => ?_)
  · have h2 := zb_n0.mp h2
    refine k_ift (F := (k_pP sh R_bestValueBySets)) h2 ?_
    refine k_iconst (v := 1) dX8_bestValueBySets_14 rfl ?_
    refine k_aload_n dX8_bestValueBySets_15 0 rfl rfl (by decide) ?_
    refine k_get (kf := 0) (v := .ref 124) dX8_bestValueBySets_16 kcX8 w_1747 (by decide) (by decide) (s_123 hsh) rfl rfl ?_
    refine k_bipush (v := 45) dX8_bestValueBySets_19 (by decide) ?_
    refine k_iload_n dX8_bestValueBySets_21 1 rfl rfl ?_
    refine k_iadd dX8_bestValueBySets_22 ?_
    refine k_iald dX8_bestValueBySets_23 (by decide) (s_124 hsh) (by omega) (by omega) (by decide) ?_
    have q3 := k_Mo_many (hMA).2.1 (x := 45 + p) (by omega) (by omega)
    refine k_ishl (v := (iI (z_one ((σ 124) (45 + p).toNat)))) dX8_bestValueBySets_24 (z_oneI (by omega) (by omega)) ?_
    have q4 := z_one_pos ((σ 124) (45 + p).toNat)
    have q5 : z_one ((σ 124) (45 + p).toNat) < 2147483648 := z_one_lt 31 (show ((σ 124) (45 + p).toNat) < 31 by omega) (by omega)
    refine k_iconst (v := 1) dX8_bestValueBySets_25 rfl ?_
    refine k_isub dX8_bestValueBySets_26 ?_
    refine k_istore_n (ls' := [(0, .ref 123), (1, .int (iI (p))), (2, .int (iI ((z_one ((σ 124) (45 + p).toNat)) - 1)))]) dX8_bestValueBySets_27 rfl (by decide) rfl rfl ?_
    refine k_bipush (v := 7) dX8_bestValueBySets_28 (by decide) ?_
    refine k_istore_n (ls' := [(0, .ref 123), (1, .int (iI (p))), (2, .int (iI ((z_one ((σ 124) (45 + p).toNat)) - 1))), (3, .int (iI (7)))]) dX8_bestValueBySets_30 rfl (by decide) rfl rfl ?_
    refine k_lrw (q := 3) (j := 3) (a' := 7 - ((0 : Nat) : Int)) (ls' := [(0, .ref 123), (1, .int (iI (p))), (2, .int (iI ((z_one ((σ 124) (45 + p).toNat)) - 1))), (3, .int (iI (7 - ((0 : Nat) : Int))))]) rfl (by omega) rfl ?_
    refine k_loopR (α := Unit) (P := fun (i31 : Nat) (x31 : Unit) Q => k_V E mX8_bestValueBySets _ 31 [(0, .ref 123), (1, .int (iI (p))), (2, .int (iI ((z_one ((σ 124) (45 + p).toNat)) - 1))), (3, .int (iI (7 - (i31 : Int))))] [] sh σ _ _ Q) (J := fun (i31 : Nat) (x31 : Unit) => True) (7) (b_bestValueBySets_31 σ p) () (F := fun t => (k_pP sh R_bestValueBySets) (k_els (r_bestValueBySets_31 σ p) t)) (show True from True.intro) ?_ ?_
    · intro x31 hJ31
      show k_V E mX8_bestValueBySets _ 31 [(0, .ref 123), (1, .int (iI (p))), (2, .int (iI ((z_one ((σ 124) (45 + p).toNat)) - 1))), (3, .int (iI (7 - ((7 : Nat) : Int))))] [] sh σ _ _ ((k_pP sh R_bestValueBySets) ((r_bestValueBySets_31 σ p) x31))
      unfold r_bestValueBySets_31
      refine k_iload_n dX8_bestValueBySets_31 3 rfl rfl ?_
      refine k_if_le (tgt := 82) dX8_bestValueBySets_32 rfl ⟨by omega, by omega⟩ (fun h7 => ?_) (fun h7 => absurd h7 (by omega))
      refine k_aload_n dX8_bestValueBySets_82 0 rfl rfl (by decide) ?_
      refine k_iconst (v := 0) dX8_bestValueBySets_83 rfl ?_
      refine k_callVr (st := []) (as := [.int (iI (0))]) dX8_bestValueBySets_84 oX8_tells w_1854 w_1856 w_32 rfl (by omega) rfl (Nat.le_of_ble_eq_true rfl) (by decide) (s_123 hsh) rfl (c8_tells hsh) ?_
      refine k_eqσ (σ' := (k_up σ 123 (k_u1 (σ 123) 7 (0)))) ((show k_up σ 123 (k_u1 (σ 123) 7 (0)) = (k_up σ 123 (k_u1 (σ 123) 7 (0))) from rfl)).symm ?_
      exact k_retiP dX8_bestValueBySets_87 rfl rfl rfl (show (-1 ≤ (0 : Int) ∧ (0 : Int) ≤ 1000) ∧ k_MA (k_up σ 123 (k_u1 (σ 123) 7 (0))) from ⟨by omega, ⟨(show k_F0 (k_u1 (σ 123) 7 (0)) from (k_F0_u (hMA).1 (by omega))), (hMA).2.1, (hMA).2.2.1, (hMA).2.2.2.1, (hMA).2.2.2.2.1, (hMA).2.2.2.2.2.1, (hMA).2.2.2.2.2.2.1, (hMA).2.2.2.2.2.2.2.1, (hMA).2.2.2.2.2.2.2.2.1, (hMA).2.2.2.2.2.2.2.2.2.1, (hMA).2.2.2.2.2.2.2.2.2.2.1, (hMA).2.2.2.2.2.2.2.2.2.2.2.1, (hMA).2.2.2.2.2.2.2.2.2.2.2.2⟩⟩)
    · intro n31 i31 x31 hi31 hJ31 ih31
      show k_V E mX8_bestValueBySets _ 31 [(0, .ref 123), (1, .int (iI (p))), (2, .int (iI ((z_one ((σ 124) (45 + p).toNat)) - 1))), (3, .int (iI (7 - (i31 : Int))))] [] sh σ _ _ ((fun t => (k_pP sh R_bestValueBySets) (k_els (r_bestValueBySets_31 σ p) (k_cn2 (k_for (b_bestValueBySets_31 σ p) n31 (i31 + 1)) t))) ((b_bestValueBySets_31 σ p) i31 x31))
      unfold b_bestValueBySets_31
      refine k_iload_n dX8_bestValueBySets_31 3 rfl rfl ?_
      refine k_if_le (tgt := 82) dX8_bestValueBySets_32 rfl ⟨by omega, by omega⟩ (fun h9 => absurd h9 (by omega)) (fun h9 => ?_)
      refine k_iload_n dX8_bestValueBySets_35 3 rfl rfl ?_
      refine k_iconst (v := 2) dX8_bestValueBySets_36 rfl ?_
      refine k_ishr (v := (iI (z_shr (7 - (i31 : Int)) (2)))) dX8_bestValueBySets_37 (zz_shrI (by omega) (by omega) (by omega) (by omega)) ?_
      have q10 := z_shr_nn (7 - (i31 : Int)) (2)
      have q11 := z_shr_le (7 - (i31 : Int)) (2) (by omega)
      refine k_iload_n dX8_bestValueBySets_38 3 rfl rfl ?_
      refine k_iconst (v := 2) dX8_bestValueBySets_39 rfl ?_
      refine k_iand (v := (iI (z_and (7 - (i31 : Int)) (2)))) dX8_bestValueBySets_40 (z_andI (by omega) (by omega)) ?_
      have q12 := z_and_nn (7 - (i31 : Int)) (2)
      have q13 := z_and_le (7 - (i31 : Int)) (2) (by omega)
      have q14 := z_and_le2 (7 - (i31 : Int)) (2) (by decide)
      refine k_ior (v := (iI (z_or (z_shr (7 - (i31 : Int)) (2)) (z_and (7 - (i31 : Int)) (2))))) dX8_bestValueBySets_41 (z_orI (z_shr_nn _ _) (z_and_nn _ _)) ?_
      have q15 := z_or_nn (z_shr (7 - (i31 : Int)) (2)) (z_and (7 - (i31 : Int)) (2))
      refine k_iload_n dX8_bestValueBySets_42 3 rfl rfl ?_
      refine k_iconst (v := 1) dX8_bestValueBySets_43 rfl ?_
      refine k_iand (v := (iI (z_and (7 - (i31 : Int)) (1)))) dX8_bestValueBySets_44 (z_andI (by omega) (by omega)) ?_
      have q16 := z_and_nn (7 - (i31 : Int)) (1)
      have q17 := z_and_le (7 - (i31 : Int)) (1) (by omega)
      have q18 := z_and_le2 (7 - (i31 : Int)) (1) (by decide)
      refine k_iconst (v := 2) dX8_bestValueBySets_45 rfl ?_
      refine k_ishl (v := (iI (z_shl (z_and (7 - (i31 : Int)) (1)) (2)))) dX8_bestValueBySets_46 (z_shlI (by omega) (by omega) (by omega) (by omega)) ?_
      refine k_ior (v := (iI (z_or (z_or (z_shr (7 - (i31 : Int)) (2)) (z_and (7 - (i31 : Int)) (2))) (z_shl (z_and (7 - (i31 : Int)) (1)) (2))))) dX8_bestValueBySets_47 (z_orI (z_or_nn _ _) (z_shl_nn _ _)) ?_
      have q19 := z_or_nn (z_or (z_shr (7 - (i31 : Int)) (2)) (z_and (7 - (i31 : Int)) (2))) (z_shl (z_and (7 - (i31 : Int)) (1)) (2))
      refine k_istore (ls' := [(0, .ref 123), (1, .int (iI (p))), (2, .int (iI ((z_one ((σ 124) (45 + p).toNat)) - 1))), (3, .int (iI (7 - (i31 : Int)))), (4, .int (iI (z_or (z_or (z_shr (7 - (i31 : Int)) (2)) (z_and (7 - (i31 : Int)) (2))) (z_shl (z_and (7 - (i31 : Int)) (1)) (2)))))]) dX8_bestValueBySets_48 (by decide) rfl rfl ?_
      have y20 := z_set3_r (v := 7 - (i31 : Int)) (by omega)
      refine k_iload dX8_bestValueBySets_50 4 rfl ?_
      refine k_iload_n dX8_bestValueBySets_52 2 rfl rfl ?_
      refine k_iconst (v := (-1)) dX8_bestValueBySets_53 rfl ?_
      refine k_ixor (v := (iI ((z_one ((σ 124) (45 + p).toNat)) - 1) ^^^ iI (-1))) dX8_bestValueBySets_54 rfl ?_
      refine k_iand (v := (iI (z_diff (z_or (z_or (z_shr (7 - (i31 : Int)) (2)) (z_and (7 - (i31 : Int)) (2))) (z_shl (z_and (7 - (i31 : Int)) (1)) (2))) ((z_one ((σ 124) (45 + p).toNat)) - 1)))) dX8_bestValueBySets_55 (z_diffI (by omega) (by omega) (by omega)) ?_
      have q21 := z_diff_nn (z_or (z_or (z_shr (7 - (i31 : Int)) (2)) (z_and (7 - (i31 : Int)) (2))) (z_shl (z_and (7 - (i31 : Int)) (1)) (2))) ((z_one ((σ 124) (45 + p).toNat)) - 1)
      have q22 : z_diff (z_or (z_or (z_shr (7 - (i31 : Int)) (2)) (z_and (7 - (i31 : Int)) (2))) (z_shl (z_and (7 - (i31 : Int)) (1)) (2))) ((z_one ((σ 124) (45 + p).toNat)) - 1) < 2147483648 := z_diff_lt 31 (show (z_or (z_or (z_shr (7 - (i31 : Int)) (2)) (z_and (7 - (i31 : Int)) (2))) (z_shl (z_and (7 - (i31 : Int)) (1)) (2))) < 2147483648 by omega)
      refine k_if_ne (tgt := 76) dX8_bestValueBySets_56 rfl ⟨by omega, by omega⟩ (fun h23 => ?_) (fun h23 => ?_)
      · refine k_iff (F := (fun t => (k_pP sh R_bestValueBySets) (k_els (r_bestValueBySets_31 σ p) (k_cn2 (k_for (b_bestValueBySets_31 σ p) n31 (i31 + 1)) t)))) h23 ?_
        refine k_iinc (ls' := [(0, .ref 123), (1, .int (iI (p))), (2, .int (iI ((z_one ((σ 124) (45 + p).toNat)) - 1))), (3, .int (iI (7 - (i31 : Int) + (-1)))), (4, .int (iI (z_or (z_or (z_shr (7 - (i31 : Int)) (2)) (z_and (7 - (i31 : Int)) (2))) (z_shl (z_and (7 - (i31 : Int)) (1)) (2)))))]) dX8_bestValueBySets_76 3 rfl (by decide) rfl rfl ?_
        refine k_goto (tgt := 31) dX8_bestValueBySets_79 rfl ?_
        refine k_dropr (ls' := [(0, .ref 123), (1, .int (iI (p))), (2, .int (iI ((z_one ((σ 124) (45 + p).toNat)) - 1))), (3, .int (iI (7 - (i31 : Int) + (-1))))]) (ex := [(4, .int (iI (z_or (z_or (z_shr (7 - (i31 : Int)) (2)) (z_and (7 - (i31 : Int)) (2))) (z_shl (z_and (7 - (i31 : Int)) (1)) (2)))))]) rfl ?_
        refine k_lrw (q := 3) (j := 3) (a' := 7 - ((i31 + 1 : Nat) : Int)) (ls' := [(0, .ref 123), (1, .int (iI (p))), (2, .int (iI ((z_one ((σ 124) (45 + p).toNat)) - 1))), (3, .int (iI (7 - ((i31 + 1 : Nat) : Int))))]) rfl (by omega) rfl ?_
        exact ih31 (()) (show True from True.intro)
      · refine k_ift (F := (fun t => (k_pP sh R_bestValueBySets) (k_els (r_bestValueBySets_31 σ p) (k_cn2 (k_for (b_bestValueBySets_31 σ p) n31 (i31 + 1)) t)))) h23 ?_
        refine k_aload_n dX8_bestValueBySets_59 0 rfl rfl (by decide) ?_
        refine k_iload_n dX8_bestValueBySets_60 1 rfl rfl ?_
        refine k_iload dX8_bestValueBySets_61 4 rfl ?_
        refine k_iconst (v := 1) dX8_bestValueBySets_63 rfl ?_
        refine k_callVrP (st := []) (as := [.int (iI (p)), .int (iI (z_or (z_or (z_shr (7 - (i31 : Int)) (2)) (z_and (7 - (i31 : Int)) (2))) (z_shl (z_and (7 - (i31 : Int)) (1)) (2)))), .int (iI (1))]) dX8_bestValueBySets_64 oX8_canPlace w_2088 w_2090 w_62 rfl (by omega) rfl (Nat.le_of_ble_eq_true rfl) (by decide) (s_123 hsh) rfl (c8_canPlace hsh (hMA).2.1 (by omega) (by omega) (by omega)) (fun z24 => ?_)
        refine k_if_eq (tgt := 76) dX8_bestValueBySets_67 rfl (zb_kr _) (fun h25 => ?_) (fun h25 => ?_)
        · have h25 := zb_0.mp h25
          refine k_iff (F := (fun t => (k_pP sh R_bestValueBySets) (k_els (r_bestValueBySets_31 σ p) (k_cn2 (k_for (b_bestValueBySets_31 σ p) n31 (i31 + 1)) t)))) h25 ?_
          refine k_iinc (ls' := [(0, .ref 123), (1, .int (iI (p))), (2, .int (iI ((z_one ((σ 124) (45 + p).toNat)) - 1))), (3, .int (iI (7 - (i31 : Int) + (-1)))), (4, .int (iI (z_or (z_or (z_shr (7 - (i31 : Int)) (2)) (z_and (7 - (i31 : Int)) (2))) (z_shl (z_and (7 - (i31 : Int)) (1)) (2)))))]) dX8_bestValueBySets_76 3 rfl (by decide) rfl rfl ?_
          refine k_goto (tgt := 31) dX8_bestValueBySets_79 rfl ?_
          refine k_dropr (ls' := [(0, .ref 123), (1, .int (iI (p))), (2, .int (iI ((z_one ((σ 124) (45 + p).toNat)) - 1))), (3, .int (iI (7 - (i31 : Int) + (-1))))]) (ex := [(4, .int (iI (z_or (z_or (z_shr (7 - (i31 : Int)) (2)) (z_and (7 - (i31 : Int)) (2))) (z_shl (z_and (7 - (i31 : Int)) (1)) (2)))))]) rfl ?_
          refine k_lrw (q := 3) (j := 3) (a' := 7 - ((i31 + 1 : Nat) : Int)) (ls' := [(0, .ref 123), (1, .int (iI (p))), (2, .int (iI ((z_one ((σ 124) (45 + p).toNat)) - 1))), (3, .int (iI (7 - ((i31 + 1 : Nat) : Int))))]) rfl (by omega) rfl ?_
          exact ih31 (()) (show True from True.intro)
        · have h25 := zb_n0.mp h25
          refine k_ift (F := (fun t => (k_pP sh R_bestValueBySets) (k_els (r_bestValueBySets_31 σ p) (k_cn2 (k_for (b_bestValueBySets_31 σ p) n31 (i31 + 1)) t)))) h25 ?_
          refine k_aload_n dX8_bestValueBySets_70 0 rfl rfl (by decide) ?_
          refine k_iload_n dX8_bestValueBySets_71 3 rfl rfl ?_
          refine k_callVr (st := []) (as := [.int (iI (7 - (i31 : Int)))]) dX8_bestValueBySets_72 oX8_tells w_1854 w_1856 w_32 rfl (by omega) rfl (Nat.le_of_ble_eq_true rfl) (by decide) (s_123 hsh) rfl (c8_tells hsh) ?_
          refine k_eqσ (σ' := (k_up σ 123 (k_u1 (σ 123) 7 (0)))) ((show k_up σ 123 (k_u1 (σ 123) 7 (0)) = (k_up σ 123 (k_u1 (σ 123) 7 (0))) from rfl)).symm ?_
          exact k_retiP dX8_bestValueBySets_75 rfl rfl rfl (show (-1 ≤ 7 - (i31 : Int) ∧ 7 - (i31 : Int) ≤ 1000) ∧ k_MA (k_up σ 123 (k_u1 (σ 123) 7 (0))) from ⟨by omega, ⟨(show k_F0 (k_u1 (σ 123) 7 (0)) from (k_F0_u (hMA).1 (by omega))), (hMA).2.1, (hMA).2.2.1, (hMA).2.2.2.1, (hMA).2.2.2.2.1, (hMA).2.2.2.2.2.1, (hMA).2.2.2.2.2.2.1, (hMA).2.2.2.2.2.2.2.1, (hMA).2.2.2.2.2.2.2.2.1, (hMA).2.2.2.2.2.2.2.2.2.1, (hMA).2.2.2.2.2.2.2.2.2.2.1, (hMA).2.2.2.2.2.2.2.2.2.2.2.1, (hMA).2.2.2.2.2.2.2.2.2.2.2.2⟩⟩)
  · have h2 := zb_0.mp h2
    refine k_iff (F := (k_pP sh R_bestValueBySets)) h2 ?_
    refine k_aload_n dX8_bestValueBySets_8 0 rfl rfl (by decide) ?_
    refine k_iconst (v := 1) dX8_bestValueBySets_9 rfl ?_
    refine k_callVr (st := []) (as := [.int (iI (1))]) dX8_bestValueBySets_10 oX8_fails w_1850 w_1852 w_31 rfl (by omega) rfl (Nat.le_of_ble_eq_true rfl) (by decide) (s_123 hsh) rfl (c8_fails hsh) ?_
    refine k_eqσ (σ' := (k_up σ 123 (k_u1 (σ 123) 7 (1)))) ((show k_up σ 123 (k_u1 (σ 123) 7 (1)) = (k_up σ 123 (k_u1 (σ 123) 7 (1))) from rfl)).symm ?_
    exact k_retiP dX8_bestValueBySets_13 rfl rfl rfl (show (-1 ≤ (0 : Int) ∧ (0 : Int) ≤ 1000) ∧ k_MA (k_up σ 123 (k_u1 (σ 123) 7 (1))) from ⟨by omega, ⟨(show k_F0 (k_u1 (σ 123) 7 (1)) from (k_F0_u (hMA).1 (by omega))), (hMA).2.1, (hMA).2.2.1, (hMA).2.2.2.1, (hMA).2.2.2.2.1, (hMA).2.2.2.2.2.1, (hMA).2.2.2.2.2.2.1, (hMA).2.2.2.2.2.2.2.1, (hMA).2.2.2.2.2.2.2.2.1, (hMA).2.2.2.2.2.2.2.2.2.1, (hMA).2.2.2.2.2.2.2.2.2.2.1, (hMA).2.2.2.2.2.2.2.2.2.2.2.1, (hMA).2.2.2.2.2.2.2.2.2.2.2.2⟩⟩)
abbrev R_canServe (t : Bool × (Nat → Nat → Int)) : Prop := k_MA t.2
def m_canServe (σ : Nat → Nat → Int) (p : Int) : Bool × (Nat → Nat → Int) := if 0 ≤ p ∧ p < (σ 124) 2 then if m_isServable (σ 124) p = true then (true, (k_up σ 123 (k_u1 (σ 123) 7 (0)))) else (false, (k_up σ 123 (k_u1 (σ 123) 7 (0)))) else (false, (k_up σ 123 (k_u1 (σ 123) 7 (1))))
set_option maxRecDepth 100000 in
set_option maxHeartbeats 4000000 in
theorem c8_canServe (hsh : k_Main sh) (hMA : k_MA σ) {p : Int} (h_p : -2147483648 ≤ p ∧ p < 2147483648) : k_C E mX8_canServe 7 [.ref 123, .int (iI (p))] sh σ 0 0 ((k_pPB sh R_canServe) (m_canServe σ p)) := by
  refine k_C_of (ls0 := [(0, .ref 123), (1, .int (iI (p)))]) rfl pnX8 (fun v hv => k_cat1 rfl hv) (Nat.le_of_ble_eq_true rfl) rfl ?_
  obtain ⟨⟨t0, t0b⟩, ⟨t1, t1b⟩, ⟨t2, t2b⟩, ⟨t3, t3b⟩, -⟩ := id hMA.2.1
  obtain ⟨⟨f7_0, g7_0⟩, ⟨f7_1, g7_1⟩, ⟨f7_2, g7_2⟩, ⟨f7_3, g7_3⟩, ⟨f7_4, g7_4⟩, ⟨f7_5, g7_5⟩, ⟨f7_6, g7_6⟩, ⟨f7_7, g7_7⟩, ⟨f7_8, g7_8⟩, ⟨f7_9, g7_9⟩, ⟨f7_10, g7_10⟩, ⟨f7_11, g7_11⟩, ⟨f7_12, g7_12⟩, ⟨f7_13, g7_13⟩⟩ := id hMA.1
  unfold m_canServe
  refine k_aload_n dX8_canServe_0 0 rfl rfl (by decide) ?_
  refine k_aload_n dX8_canServe_1 0 rfl rfl (by decide) ?_
  refine k_iload_n dX8_canServe_2 1 rfl rfl ?_
  refine k_callVr (st := [.ref 123]) (as := [.int (iI (p))]) dX8_canServe_3 oX8_isPupil w_1992 w_1994 w_49 rfl (by omega) rfl (Nat.le_of_ble_eq_true rfl) (by decide) (s_123 hsh) rfl (c8_isPupil (σ := σ) hsh (hMA).2.1 ⟨by omega, by omega⟩) ?_
  refine k_if_eq (tgt := 13) dX8_canServe_6 rfl (zb_kr _) (fun h2 => ?_) (fun h2 => ?_)
  · have h2 := zb_0.mp h2
    refine k_iff (F := (k_pPB sh R_canServe)) h2 ?_
    refine k_iconst (v := 1) dX8_canServe_13 rfl ?_
    refine k_putfW (kf := 7) dX8_canServe_14 kcX8 w_1754 (by decide) (by decide) (s_123 hsh) rfl rfl rfl rfl ?_
    refine k_eqσ (σ' := (k_up σ 123 (k_u1 (σ 123) 7 (1)))) rfl ?_
    refine k_aload_n dX8_canServe_17 0 rfl rfl (by decide) ?_
    refine k_get (kf := 7) (v := .int (iI (1))) dX8_canServe_18 kcX8 w_1754 (by decide) (by decide) (s_123 hsh) rfl rfl ?_
    refine k_if_ne (tgt := 36) dX8_canServe_21 rfl ⟨by decide, by decide⟩ (fun h3 => ?_) (fun h3 => absurd h3 (by decide))
    refine k_iconst (v := 0) dX8_canServe_36 rfl ?_
    exact k_retzP dX8_canServe_37 rfl (Or.inl rfl) rfl k_lfF (show k_MA (k_up σ 123 (k_u1 (σ 123) 7 (1))) from ⟨(show k_F0 (k_u1 (σ 123) 7 (1)) from (k_F0_u (hMA).1 (by omega))), (hMA).2.1, (hMA).2.2.1, (hMA).2.2.2.1, (hMA).2.2.2.2.1, (hMA).2.2.2.2.2.1, (hMA).2.2.2.2.2.2.1, (hMA).2.2.2.2.2.2.2.1, (hMA).2.2.2.2.2.2.2.2.1, (hMA).2.2.2.2.2.2.2.2.2.1, (hMA).2.2.2.2.2.2.2.2.2.2.1, (hMA).2.2.2.2.2.2.2.2.2.2.2.1, (hMA).2.2.2.2.2.2.2.2.2.2.2.2⟩)
  · have h2 := zb_n0.mp h2
    refine k_ift (F := (k_pPB sh R_canServe)) h2 ?_
    refine k_iconst (v := 0) dX8_canServe_9 rfl ?_
    refine k_goto (tgt := 14) dX8_canServe_10 rfl ?_
    refine k_putfW (kf := 7) dX8_canServe_14 kcX8 w_1754 (by decide) (by decide) (s_123 hsh) rfl rfl rfl rfl ?_
    refine k_eqσ (σ' := (k_up σ 123 (k_u1 (σ 123) 7 (0)))) rfl ?_
    refine k_aload_n dX8_canServe_17 0 rfl rfl (by decide) ?_
    refine k_get (kf := 7) (v := .int (iI (0))) dX8_canServe_18 kcX8 w_1754 (by decide) (by decide) (s_123 hsh) rfl rfl ?_
    refine k_if_ne (tgt := 36) dX8_canServe_21 rfl ⟨by decide, by decide⟩ (fun h4 => absurd h4 (by decide)) (fun h4 => ?_)
    refine k_aload_n dX8_canServe_24 0 rfl rfl (by decide) ?_
    refine k_iload_n dX8_canServe_25 1 rfl rfl ?_
    refine k_callVrP (st := []) (as := [.int (iI (p))]) dX8_canServe_26 oX8_isServable w_2100 w_2102 w_64 rfl (by omega) rfl (Nat.le_of_ble_eq_true rfl) (by decide) (s_123 hsh) rfl (c8_isServable (σ := (k_up σ 123 (k_u1 (σ 123) 7 (0)))) hsh (hMA).2.1 (by omega)) (fun z5 => ?_)
    refine k_eqst (st' := [.int (iI (zb (m_isServable (σ 124) p = true)))]) rfl ?_
    refine k_if_eq (tgt := 36) dX8_canServe_29 rfl (zb_kr _) (fun h6 => ?_) (fun h6 => ?_)
    · have h6 := zb_0.mp h6
      refine k_iff (F := (k_pPB sh R_canServe)) h6 ?_
      refine k_iconst (v := 0) dX8_canServe_36 rfl ?_
      exact k_retzP dX8_canServe_37 rfl (Or.inl rfl) rfl k_lfF (show k_MA (k_up σ 123 (k_u1 (σ 123) 7 (0))) from ⟨(show k_F0 (k_u1 (σ 123) 7 (0)) from (k_F0_u (hMA).1 (by omega))), (hMA).2.1, (hMA).2.2.1, (hMA).2.2.2.1, (hMA).2.2.2.2.1, (hMA).2.2.2.2.2.1, (hMA).2.2.2.2.2.2.1, (hMA).2.2.2.2.2.2.2.1, (hMA).2.2.2.2.2.2.2.2.1, (hMA).2.2.2.2.2.2.2.2.2.1, (hMA).2.2.2.2.2.2.2.2.2.2.1, (hMA).2.2.2.2.2.2.2.2.2.2.2.1, (hMA).2.2.2.2.2.2.2.2.2.2.2.2⟩)
    · have h6 := zb_n0.mp h6
      refine k_ift (F := (k_pPB sh R_canServe)) h6 ?_
      refine k_iconst (v := 1) dX8_canServe_32 rfl ?_
      refine k_goto (tgt := 37) dX8_canServe_33 rfl ?_
      exact k_retzP dX8_canServe_37 rfl (Or.inr rfl) rfl k_lfT (show k_MA (k_up σ 123 (k_u1 (σ 123) 7 (0))) from ⟨(show k_F0 (k_u1 (σ 123) 7 (0)) from (k_F0_u (hMA).1 (by omega))), (hMA).2.1, (hMA).2.2.1, (hMA).2.2.2.1, (hMA).2.2.2.2.1, (hMA).2.2.2.2.2.1, (hMA).2.2.2.2.2.2.1, (hMA).2.2.2.2.2.2.2.1, (hMA).2.2.2.2.2.2.2.2.1, (hMA).2.2.2.2.2.2.2.2.2.1, (hMA).2.2.2.2.2.2.2.2.2.2.1, (hMA).2.2.2.2.2.2.2.2.2.2.2.1, (hMA).2.2.2.2.2.2.2.2.2.2.2.2⟩)
abbrev R_canServeByCounting (t : Bool × (Nat → Nat → Int)) : Prop := k_MA t.2
def r_canServeByCounting_32 (σ : Nat → Nat → Int) (p : Int) (x32 : Int) : Bool × (Nat → Nat → Int) := if x32 = 0 then (decide (x32 = 1), (k_up σ 123 (k_u1 (σ 123) 7 (0)))) else (decide (x32 = 1), (k_up σ 123 (k_u1 (σ 123) 7 (0))))
def r_canServeByCounting_86 (σ : Nat → Nat → Int) (p : Int) (i32 : Nat) (x32 : Int) (x60 : Int) (x86 : Int) : (Bool × (Nat → Nat → Int)) ⊕ (Int) := if x86 < x60 then .inr (0) else .inr (1)
def r_canServeByCounting_103 (σ : Nat → Nat → Int) (p : Int) (i32 : Nat) (x32 : Int) (x60 : Int) (i86 : Nat) (x86 : Int) (x103 : Int) : Int := if x103 = 0 then x86 + 0 else x86 + 1
def b_canServeByCounting_103 (σ : Nat → Nat → Int) (p : Int) (i32 : Nat) (x32 : Int) (x60 : Int) (i86 : Nat) (x86 : Int) (i103 : Nat) (x103 : Int) : Int := if x103 = 0 then if (z_and (z_shr (1 + (i32 : Int)) ((i103 : Int))) (1)) = 1 then if (σ 124) (17 + 4 * ((σ 124) (57 + 3 * p + (i103 : Int)).toNat) + (i86 : Int)).toNat = 1 then 1 else 0 else 0 else 1
def b_canServeByCounting_86 (σ : Nat → Nat → Int) (p : Int) (i32 : Nat) (x32 : Int) (x60 : Int) (i86 : Nat) (x86 : Int) : Int := (r_canServeByCounting_103 σ p i32 x32 x60 i86 x86) (k_it (b_canServeByCounting_103 σ p i32 x32 x60 i86 x86) (((σ 124) (45 + p).toNat).toNat) 0 (0))
def r_canServeByCounting_60 (σ : Nat → Nat → Int) (p : Int) (i32 : Nat) (x32 : Int) (x60 : Int) : (Bool × (Nat → Nat → Int)) ⊕ (Int) := (r_canServeByCounting_86 σ p i32 x32 x60) (k_it (b_canServeByCounting_86 σ p i32 x32 x60) (((σ 124) 1).toNat) 0 (0))
def b_canServeByCounting_60 (σ : Nat → Nat → Int) (p : Int) (i32 : Nat) (x32 : Int) (i60 : Nat) (x60 : Int) : Int := x60 + (z_and (z_shr (1 + (i32 : Int)) ((i60 : Int))) (1))
def b_canServeByCounting_32 (σ : Nat → Nat → Int) (p : Int) (i32 : Nat) (x32 : Int) : (Bool × (Nat → Nat → Int)) ⊕ (Int) := if x32 = 0 then .inl ((decide (x32 = 1), (k_up σ 123 (k_u1 (σ 123) 7 (0))))) else (r_canServeByCounting_60 σ p i32 x32) (k_it (b_canServeByCounting_60 σ p i32 x32) (3) 0 (0))
def m_canServeByCounting (σ : Nat → Nat → Int) (p : Int) : Bool × (Nat → Nat → Int) := if 0 ≤ p ∧ p < (σ 124) 2 then k_els (r_canServeByCounting_32 σ p) (k_for (b_canServeByCounting_32 σ p) ((z_one ((σ 124) (45 + p).toNat) - 1).toNat) 0 (1)) else (false, (k_up σ 123 (k_u1 (σ 123) 7 (1))))
set_option maxRecDepth 100000 in
set_option maxHeartbeats 4000000 in
theorem c8_canServeByCounting (hsh : k_Main sh) (hMA : k_MA σ) {p : Int} (h_p : -2147483648 ≤ p ∧ p < 2147483648) : k_C E mX8_canServeByCounting 4 [.ref 123, .int (iI (p))] sh σ 0 0 ((k_pPB sh R_canServeByCounting) (m_canServeByCounting σ p)) := by
  refine k_C_of (ls0 := [(0, .ref 123), (1, .int (iI (p)))]) rfl pnX8 (fun v hv => k_cat1 rfl hv) (Nat.le_of_ble_eq_true rfl) rfl ?_
  obtain ⟨⟨t0, t0b⟩, ⟨t1, t1b⟩, ⟨t2, t2b⟩, ⟨t3, t3b⟩, -⟩ := id hMA.2.1
  obtain ⟨⟨f46_0, g46_0⟩, ⟨f46_1, g46_1⟩, ⟨f46_2, g46_2⟩, ⟨f46_3, g46_3⟩, ⟨f46_4, g46_4⟩, ⟨f46_5, g46_5⟩, ⟨f46_6, g46_6⟩, ⟨f46_7, g46_7⟩, ⟨f46_8, g46_8⟩, ⟨f46_9, g46_9⟩, ⟨f46_10, g46_10⟩, ⟨f46_11, g46_11⟩, ⟨f46_12, g46_12⟩, ⟨f46_13, g46_13⟩⟩ := id hMA.1
  unfold m_canServeByCounting
  refine k_aload_n dX8_canServeByCounting_0 0 rfl rfl (by decide) ?_
  refine k_aload_n dX8_canServeByCounting_1 0 rfl rfl (by decide) ?_
  refine k_iload_n dX8_canServeByCounting_2 1 rfl rfl ?_
  refine k_callVr (st := [.ref 123]) (as := [.int (iI (p))]) dX8_canServeByCounting_3 oX8_isPupil w_1992 w_1994 w_49 rfl (by omega) rfl (Nat.le_of_ble_eq_true rfl) (by decide) (s_123 hsh) rfl (c8_isPupil (σ := σ) hsh (hMA).2.1 ⟨by omega, by omega⟩) ?_
  refine k_if_eq (tgt := 13) dX8_canServeByCounting_6 rfl (zb_kr _) (fun h2 => ?_) (fun h2 => ?_)
  · have h2 := zb_0.mp h2
    refine k_iff (F := (k_pPB sh R_canServeByCounting)) h2 ?_
    refine k_iconst (v := 1) dX8_canServeByCounting_13 rfl ?_
    refine k_putfW (kf := 7) dX8_canServeByCounting_14 kcX8 w_1754 (by decide) (by decide) (s_123 hsh) rfl rfl rfl rfl ?_
    refine k_eqσ (σ' := (k_up σ 123 (k_u1 (σ 123) 7 (1)))) rfl ?_
    refine k_aload_n dX8_canServeByCounting_17 0 rfl rfl (by decide) ?_
    refine k_get (kf := 7) (v := .int (iI (1))) dX8_canServeByCounting_18 kcX8 w_1754 (by decide) (by decide) (s_123 hsh) rfl rfl ?_
    refine k_if_ne (tgt := 28) dX8_canServeByCounting_21 rfl ⟨by decide, by decide⟩ (fun h3 => ?_) (fun h3 => absurd h3 (by decide))
    refine k_iconst (v := 0) dX8_canServeByCounting_28 rfl ?_
    refine k_istore_n (ls' := [(0, .ref 123), (1, .int (iI (p))), (2, .int (iI (0)))]) dX8_canServeByCounting_29 rfl (by decide) rfl rfl ?_
    refine k_iconst (v := 1) dX8_canServeByCounting_30 rfl ?_
    refine k_istore_n (ls' := [(0, .ref 123), (1, .int (iI (p))), (2, .int (iI (0))), (3, .int (iI (1)))]) dX8_canServeByCounting_31 rfl (by decide) rfl rfl ?_
    refine k_iload_n dX8_canServeByCounting_32 2 rfl rfl ?_
    refine k_if_eq (tgt := 201) dX8_canServeByCounting_33 rfl ⟨by decide, by decide⟩ (fun h4 => ?_) (fun h4 => absurd h4 (by decide))
    refine k_iload_n dX8_canServeByCounting_201 2 rfl rfl ?_
    exact k_retzP dX8_canServeByCounting_202 rfl (Or.inl rfl) rfl k_lfF (show k_MA (k_up σ 123 (k_u1 (σ 123) 7 (1))) from ⟨(show k_F0 (k_u1 (σ 123) 7 (1)) from (k_F0_u (hMA).1 (by omega))), (hMA).2.1, (hMA).2.2.1, (hMA).2.2.2.1, (hMA).2.2.2.2.1, (hMA).2.2.2.2.2.1, (hMA).2.2.2.2.2.2.1, (hMA).2.2.2.2.2.2.2.1, (hMA).2.2.2.2.2.2.2.2.1, (hMA).2.2.2.2.2.2.2.2.2.1, (hMA).2.2.2.2.2.2.2.2.2.2.1, (hMA).2.2.2.2.2.2.2.2.2.2.2.1, (hMA).2.2.2.2.2.2.2.2.2.2.2.2⟩)
  · have h2 := zb_n0.mp h2
    refine k_ift (F := (k_pPB sh R_canServeByCounting)) h2 ?_
    refine k_iconst (v := 0) dX8_canServeByCounting_9 rfl ?_
    refine k_goto (tgt := 14) dX8_canServeByCounting_10 rfl ?_
    refine k_putfW (kf := 7) dX8_canServeByCounting_14 kcX8 w_1754 (by decide) (by decide) (s_123 hsh) rfl rfl rfl rfl ?_
    refine k_eqσ (σ' := (k_up σ 123 (k_u1 (σ 123) 7 (0)))) rfl ?_
    refine k_aload_n dX8_canServeByCounting_17 0 rfl rfl (by decide) ?_
    refine k_get (kf := 7) (v := .int (iI (0))) dX8_canServeByCounting_18 kcX8 w_1754 (by decide) (by decide) (s_123 hsh) rfl rfl ?_
    refine k_if_ne (tgt := 28) dX8_canServeByCounting_21 rfl ⟨by decide, by decide⟩ (fun h5 => absurd h5 (by decide)) (fun h5 => ?_)
    refine k_iconst (v := 1) dX8_canServeByCounting_24 rfl ?_
    refine k_goto (tgt := 29) dX8_canServeByCounting_25 rfl ?_
    refine k_istore_n (ls' := [(0, .ref 123), (1, .int (iI (p))), (2, .int (iI (1)))]) dX8_canServeByCounting_29 rfl (by decide) rfl rfl ?_
    refine k_iconst (v := 1) dX8_canServeByCounting_30 rfl ?_
    refine k_istore_n (ls' := [(0, .ref 123), (1, .int (iI (p))), (2, .int (iI (1))), (3, .int (iI (1)))]) dX8_canServeByCounting_31 rfl (by decide) rfl rfl ?_
    refine k_lrw (q := 3) (j := 3) (a' := 1 + ((0 : Nat) : Int)) (ls' := [(0, .ref 123), (1, .int (iI (p))), (2, .int (iI (1))), (3, .int (iI (1 + ((0 : Nat) : Int))))]) rfl (by omega) rfl ?_
    refine k_loopR (α := Int) (P := fun (i32 : Nat) (x32 : Int) Q => k_V E mX8_canServeByCounting _ 32 [(0, .ref 123), (1, .int (iI (p))), (2, .int (iI (x32))), (3, .int (iI (1 + (i32 : Int))))] [] sh (k_up σ 123 (k_u1 (σ 123) 7 (0))) _ _ Q) (J := fun (i32 : Nat) (x32 : Int) => 0 ≤ x32 ∧ x32 ≤ 1) ((z_one ((σ 124) (45 + p).toNat) - 1).toNat) (b_canServeByCounting_32 σ p) (1) (F := fun t => (k_pPB sh R_canServeByCounting) (k_els (r_canServeByCounting_32 σ p) t)) (show 0 ≤ (1 : Int) ∧ (1 : Int) ≤ 1 from by omega) ?_ ?_
    · intro x32 hJ32
      have hJ32 : 0 ≤ x32 ∧ x32 ≤ 1 := hJ32
      have hU32 := hJ32
      show k_V E mX8_canServeByCounting _ 32 [(0, .ref 123), (1, .int (iI (p))), (2, .int (iI (x32))), (3, .int (iI (1 + (((z_one ((σ 124) (45 + p).toNat) - 1).toNat : Nat) : Int))))] [] sh (k_up σ 123 (k_u1 (σ 123) 7 (0))) _ _ ((k_pPB sh R_canServeByCounting) ((r_canServeByCounting_32 σ p) x32))
      unfold r_canServeByCounting_32
      refine k_iload_n dX8_canServeByCounting_32 2 rfl rfl ?_
      refine k_if_eq (tgt := 201) dX8_canServeByCounting_33 rfl ⟨by omega, by omega⟩ (fun h7 => ?_) (fun h7 => ?_)
      · refine k_ift (F := (k_pPB sh R_canServeByCounting)) h7 ?_
        refine k_iload_n dX8_canServeByCounting_201 2 rfl rfl ?_
        exact k_retzP dX8_canServeByCounting_202 rfl (by omega) rfl (k_lfV (by omega)) (show k_MA (k_up σ 123 (k_u1 (σ 123) 7 (0))) from ⟨(show k_F0 (k_u1 (σ 123) 7 (0)) from (k_F0_u (hMA).1 (by omega))), (hMA).2.1, (hMA).2.2.1, (hMA).2.2.2.1, (hMA).2.2.2.2.1, (hMA).2.2.2.2.2.1, (hMA).2.2.2.2.2.2.1, (hMA).2.2.2.2.2.2.2.1, (hMA).2.2.2.2.2.2.2.2.1, (hMA).2.2.2.2.2.2.2.2.2.1, (hMA).2.2.2.2.2.2.2.2.2.2.1, (hMA).2.2.2.2.2.2.2.2.2.2.2.1, (hMA).2.2.2.2.2.2.2.2.2.2.2.2⟩)
      · refine k_iff (F := (k_pPB sh R_canServeByCounting)) h7 ?_
        refine k_iload_n dX8_canServeByCounting_36 3 rfl rfl ?_
        refine k_iconst (v := 1) dX8_canServeByCounting_37 rfl ?_
        refine k_aload_n dX8_canServeByCounting_38 0 rfl rfl (by decide) ?_
        refine k_get (kf := 0) (v := .ref 124) dX8_canServeByCounting_39 kcX8 w_1747 (by decide) (by decide) (s_123 hsh) rfl rfl ?_
        refine k_bipush (v := 45) dX8_canServeByCounting_42 (by decide) ?_
        refine k_iload_n dX8_canServeByCounting_44 1 rfl rfl ?_
        refine k_iadd dX8_canServeByCounting_45 ?_
        refine k_iald dX8_canServeByCounting_46 (by decide) (s_124 hsh) (by omega) (by omega) (by decide) ?_
        refine k_eqst (st' := [.int (iI ((σ 124) (45 + p).toNat)), .int (iI (1)), .int (iI (1 + (((z_one ((σ 124) (45 + p).toNat) - 1).toNat : Nat) : Int)))]) rfl ?_
        have q8 := k_Mo_many (hMA).2.1 (x := 45 + p) (by omega) (by omega)
        refine k_ishl (v := (iI (z_one ((σ 124) (45 + p).toNat)))) dX8_canServeByCounting_47 (z_oneI (by omega) (by omega)) ?_
        have q9 := z_one_pos ((σ 124) (45 + p).toNat)
        have q10 : z_one ((σ 124) (45 + p).toNat) < 2147483648 := z_one_lt 31 (show ((σ 124) (45 + p).toNat) < 31 by omega) (by omega)
        refine k_icmp_ge (tgt := 201) dX8_canServeByCounting_48 rfl ⟨by omega, by omega⟩ ⟨by omega, by omega⟩ (fun h11 => ?_) (fun h11 => absurd h11 (by omega))
        refine k_iload_n dX8_canServeByCounting_201 2 rfl rfl ?_
        exact k_retzP dX8_canServeByCounting_202 rfl (by omega) rfl (k_lfV (by omega)) (show k_MA (k_up σ 123 (k_u1 (σ 123) 7 (0))) from ⟨(show k_F0 (k_u1 (σ 123) 7 (0)) from (k_F0_u (hMA).1 (by omega))), (hMA).2.1, (hMA).2.2.1, (hMA).2.2.2.1, (hMA).2.2.2.2.1, (hMA).2.2.2.2.2.1, (hMA).2.2.2.2.2.2.1, (hMA).2.2.2.2.2.2.2.1, (hMA).2.2.2.2.2.2.2.2.1, (hMA).2.2.2.2.2.2.2.2.2.1, (hMA).2.2.2.2.2.2.2.2.2.2.1, (hMA).2.2.2.2.2.2.2.2.2.2.2.1, (hMA).2.2.2.2.2.2.2.2.2.2.2.2⟩)
    · intro n32 i32 x32 hi32 hJ32 ih32
      have hJ32 : 0 ≤ x32 ∧ x32 ≤ 1 := hJ32
      have hU32 := hJ32
      show k_V E mX8_canServeByCounting _ 32 [(0, .ref 123), (1, .int (iI (p))), (2, .int (iI (x32))), (3, .int (iI (1 + (i32 : Int))))] [] sh (k_up σ 123 (k_u1 (σ 123) 7 (0))) _ _ ((fun t => (k_pPB sh R_canServeByCounting) (k_els (r_canServeByCounting_32 σ p) (k_cn2 (k_for (b_canServeByCounting_32 σ p) n32 (i32 + 1)) t))) ((b_canServeByCounting_32 σ p) i32 x32))
      unfold b_canServeByCounting_32
      refine k_iload_n dX8_canServeByCounting_32 2 rfl rfl ?_
      refine k_if_eq (tgt := 201) dX8_canServeByCounting_33 rfl ⟨by omega, by omega⟩ (fun h12 => ?_) (fun h12 => ?_)
      · refine k_ift (F := (fun t => (k_pPB sh R_canServeByCounting) (k_els (r_canServeByCounting_32 σ p) (k_cn2 (k_for (b_canServeByCounting_32 σ p) n32 (i32 + 1)) t)))) h12 ?_
        refine k_iload_n dX8_canServeByCounting_201 2 rfl rfl ?_
        exact k_retzP dX8_canServeByCounting_202 rfl (by omega) rfl (k_lfV (by omega)) (show k_MA (k_up σ 123 (k_u1 (σ 123) 7 (0))) from ⟨(show k_F0 (k_u1 (σ 123) 7 (0)) from (k_F0_u (hMA).1 (by omega))), (hMA).2.1, (hMA).2.2.1, (hMA).2.2.2.1, (hMA).2.2.2.2.1, (hMA).2.2.2.2.2.1, (hMA).2.2.2.2.2.2.1, (hMA).2.2.2.2.2.2.2.1, (hMA).2.2.2.2.2.2.2.2.1, (hMA).2.2.2.2.2.2.2.2.2.1, (hMA).2.2.2.2.2.2.2.2.2.2.1, (hMA).2.2.2.2.2.2.2.2.2.2.2.1, (hMA).2.2.2.2.2.2.2.2.2.2.2.2⟩)
      · refine k_iff (F := (fun t => (k_pPB sh R_canServeByCounting) (k_els (r_canServeByCounting_32 σ p) (k_cn2 (k_for (b_canServeByCounting_32 σ p) n32 (i32 + 1)) t)))) h12 ?_
        refine k_iload_n dX8_canServeByCounting_36 3 rfl rfl ?_
        refine k_iconst (v := 1) dX8_canServeByCounting_37 rfl ?_
        refine k_aload_n dX8_canServeByCounting_38 0 rfl rfl (by decide) ?_
        refine k_get (kf := 0) (v := .ref 124) dX8_canServeByCounting_39 kcX8 w_1747 (by decide) (by decide) (s_123 hsh) rfl rfl ?_
        refine k_bipush (v := 45) dX8_canServeByCounting_42 (by decide) ?_
        refine k_iload_n dX8_canServeByCounting_44 1 rfl rfl ?_
        refine k_iadd dX8_canServeByCounting_45 ?_
        refine k_iald dX8_canServeByCounting_46 (by decide) (s_124 hsh) (by omega) (by omega) (by decide) ?_
        refine k_eqst (st' := [.int (iI ((σ 124) (45 + p).toNat)), .int (iI (1)), .int (iI (1 + (i32 : Int)))]) rfl ?_
        have q13 := k_Mo_many (hMA).2.1 (x := 45 + p) (by omega) (by omega)
        refine k_ishl (v := (iI (z_one ((σ 124) (45 + p).toNat)))) dX8_canServeByCounting_47 (z_oneI (by omega) (by omega)) ?_
        have q14 := z_one_pos ((σ 124) (45 + p).toNat)
        have q15 : z_one ((σ 124) (45 + p).toNat) < 2147483648 := z_one_lt 31 (show ((σ 124) (45 + p).toNat) < 31 by omega) (by omega)
        refine k_icmp_ge (tgt := 201) dX8_canServeByCounting_48 rfl ⟨by omega, by omega⟩ ⟨by omega, by omega⟩ (fun h16 => absurd h16 (by omega)) (fun h16 => ?_)
        refine k_iconst (v := 0) dX8_canServeByCounting_51 rfl ?_
        refine k_istore (ls' := [(0, .ref 123), (1, .int (iI (p))), (2, .int (iI (x32))), (3, .int (iI (1 + (i32 : Int)))), (4, .int (iI (0)))]) dX8_canServeByCounting_52 (by decide) rfl rfl ?_
        refine k_iconst (v := 0) dX8_canServeByCounting_54 rfl ?_
        refine k_istore (ls' := [(0, .ref 123), (1, .int (iI (p))), (2, .int (iI (x32))), (3, .int (iI (1 + (i32 : Int)))), (4, .int (iI (0))), (5, .int (iI (0)))]) dX8_canServeByCounting_55 (by decide) rfl rfl ?_
        refine k_iconst (v := 0) dX8_canServeByCounting_57 rfl ?_
        refine k_istore (ls' := [(0, .ref 123), (1, .int (iI (p))), (2, .int (iI (x32))), (3, .int (iI (1 + (i32 : Int)))), (4, .int (iI (0))), (5, .int (iI (0))), (6, .int (iI (0)))]) dX8_canServeByCounting_58 (by decide) rfl rfl ?_
        refine k_loop (α := Int) (P := fun (i60 : Nat) (x60 : Int) Q => k_V E mX8_canServeByCounting _ 60 [(0, .ref 123), (1, .int (iI (p))), (2, .int (iI (x32))), (3, .int (iI (1 + (i32 : Int)))), (4, .int (iI (x60))), (5, .int (iI (0))), (6, .int (iI ((i60 : Int))))] [] sh (k_up σ 123 (k_u1 (σ 123) 7 (0))) _ _ Q) (J := fun (i60 : Nat) (x60 : Int) => 0 ≤ x60 ∧ x60 ≤ (i60 : Int)) (3) (b_canServeByCounting_60 σ p i32 x32) (0) (F := fun t => (fun t => (k_pPB sh R_canServeByCounting) (k_els (r_canServeByCounting_32 σ p) (k_cn2 (k_for (b_canServeByCounting_32 σ p) n32 (i32 + 1)) t))) ((r_canServeByCounting_60 σ p i32 x32) t)) (show 0 ≤ (0 : Int) ∧ (0 : Int) ≤ ((0 : Nat) : Int) from by omega) ?_ ?_
        · intro x60 hJ60
          have hJ60 : 0 ≤ x60 ∧ x60 ≤ ((3 : Nat) : Int) := hJ60
          have hU60 := hJ60
          show k_V E mX8_canServeByCounting _ 60 [(0, .ref 123), (1, .int (iI (p))), (2, .int (iI (x32))), (3, .int (iI (1 + (i32 : Int)))), (4, .int (iI (x60))), (5, .int (iI (0))), (6, .int (iI (((3 : Nat) : Int))))] [] sh (k_up σ 123 (k_u1 (σ 123) 7 (0))) _ _ ((fun t => (k_pPB sh R_canServeByCounting) (k_els (r_canServeByCounting_32 σ p) (k_cn2 (k_for (b_canServeByCounting_32 σ p) n32 (i32 + 1)) t))) ((r_canServeByCounting_60 σ p i32 x32) x60))
          unfold r_canServeByCounting_60
          refine k_iload dX8_canServeByCounting_60 6 rfl ?_
          refine k_iconst (v := 3) dX8_canServeByCounting_62 rfl ?_
          refine k_icmp_ge (tgt := 83) dX8_canServeByCounting_63 rfl ⟨by omega, by omega⟩ ⟨by decide, by decide⟩ (fun h18 => ?_) (fun h18 => absurd h18 (by omega))
          refine k_iconst (v := 0) dX8_canServeByCounting_83 rfl ?_
          refine k_istore (ls' := [(0, .ref 123), (1, .int (iI (p))), (2, .int (iI (x32))), (3, .int (iI (1 + (i32 : Int)))), (4, .int (iI (x60))), (5, .int (iI (0))), (6, .int (iI (0)))]) dX8_canServeByCounting_84 (by decide) rfl rfl ?_
          refine k_loop (α := Int) (P := fun (i86 : Nat) (x86 : Int) Q => k_V E mX8_canServeByCounting _ 86 [(0, .ref 123), (1, .int (iI (p))), (2, .int (iI (x32))), (3, .int (iI (1 + (i32 : Int)))), (4, .int (iI (x60))), (5, .int (iI (x86))), (6, .int (iI ((i86 : Int))))] [] sh (k_up σ 123 (k_u1 (σ 123) 7 (0))) _ _ Q) (J := fun (i86 : Nat) (x86 : Int) => 0 ≤ x86 ∧ x86 ≤ (i86 : Int)) (((σ 124) 1).toNat) (b_canServeByCounting_86 σ p i32 x32 x60) (0) (F := fun t => (fun t => (k_pPB sh R_canServeByCounting) (k_els (r_canServeByCounting_32 σ p) (k_cn2 (k_for (b_canServeByCounting_32 σ p) n32 (i32 + 1)) t))) ((r_canServeByCounting_86 σ p i32 x32 x60) t)) (show 0 ≤ (0 : Int) ∧ (0 : Int) ≤ ((0 : Nat) : Int) from by omega) ?_ ?_
          · intro x86 hJ86
            have hJ86 : 0 ≤ x86 ∧ x86 ≤ ((((σ 124) 1).toNat : Nat) : Int) := hJ86
            have hU86 := hJ86
            show k_V E mX8_canServeByCounting _ 86 [(0, .ref 123), (1, .int (iI (p))), (2, .int (iI (x32))), (3, .int (iI (1 + (i32 : Int)))), (4, .int (iI (x60))), (5, .int (iI (x86))), (6, .int (iI (((((σ 124) 1).toNat : Nat) : Int))))] [] sh (k_up σ 123 (k_u1 (σ 123) 7 (0))) _ _ ((fun t => (k_pPB sh R_canServeByCounting) (k_els (r_canServeByCounting_32 σ p) (k_cn2 (k_for (b_canServeByCounting_32 σ p) n32 (i32 + 1)) t))) ((r_canServeByCounting_86 σ p i32 x32 x60) x86))
            unfold r_canServeByCounting_86
            refine k_iload dX8_canServeByCounting_86 6 rfl ?_
            refine k_aload_n dX8_canServeByCounting_88 0 rfl rfl (by decide) ?_
            refine k_get (kf := 0) (v := .ref 124) dX8_canServeByCounting_89 kcX8 w_1747 (by decide) (by decide) (s_123 hsh) rfl rfl ?_
            refine k_iconst (v := 1) dX8_canServeByCounting_92 rfl ?_
            refine k_iald dX8_canServeByCounting_93 (by decide) (s_124 hsh) (by omega) (by omega) (by decide) ?_
            refine k_eqst (st' := [.int (iI ((σ 124) 1)), .int (iI (((((σ 124) 1).toNat : Nat) : Int)))]) rfl ?_
            refine k_icmp_ge (tgt := 182) dX8_canServeByCounting_94 rfl ⟨by omega, by omega⟩ ⟨by omega, by omega⟩ (fun h20 => ?_) (fun h20 => absurd h20 (by omega))
            refine k_iload dX8_canServeByCounting_182 5 rfl ?_
            refine k_iload dX8_canServeByCounting_184 4 rfl ?_
            refine k_icmp_lt (tgt := 193) dX8_canServeByCounting_186 rfl ⟨by omega, by omega⟩ ⟨by omega, by omega⟩ (fun h21 => ?_) (fun h21 => ?_)
            · refine k_ift (F := (fun t => (k_pPB sh R_canServeByCounting) (k_els (r_canServeByCounting_32 σ p) (k_cn2 (k_for (b_canServeByCounting_32 σ p) n32 (i32 + 1)) t)))) h21 ?_
              refine k_iconst (v := 0) dX8_canServeByCounting_193 rfl ?_
              refine k_istore_n (ls' := [(0, .ref 123), (1, .int (iI (p))), (2, .int (iI (0))), (3, .int (iI (1 + (i32 : Int)))), (4, .int (iI (x60))), (5, .int (iI (x86))), (6, .int (iI (((((σ 124) 1).toNat : Nat) : Int))))]) dX8_canServeByCounting_194 rfl (by decide) rfl rfl ?_
              refine k_iinc (ls' := [(0, .ref 123), (1, .int (iI (p))), (2, .int (iI (0))), (3, .int (iI (1 + (i32 : Int) + 1))), (4, .int (iI (x60))), (5, .int (iI (x86))), (6, .int (iI (((((σ 124) 1).toNat : Nat) : Int))))]) dX8_canServeByCounting_195 3 rfl (by decide) rfl rfl ?_
              refine k_goto (tgt := 32) dX8_canServeByCounting_198 rfl ?_
              refine k_dropr (ls' := [(0, .ref 123), (1, .int (iI (p))), (2, .int (iI (0))), (3, .int (iI (1 + (i32 : Int) + 1)))]) (ex := [(4, .int (iI (x60))), (5, .int (iI (x86))), (6, .int (iI (((((σ 124) 1).toNat : Nat) : Int))))]) rfl ?_
              refine k_lrw (q := 3) (j := 3) (a' := 1 + ((i32 + 1 : Nat) : Int)) (ls' := [(0, .ref 123), (1, .int (iI (p))), (2, .int (iI (0))), (3, .int (iI (1 + ((i32 + 1 : Nat) : Int))))]) rfl (by omega) rfl ?_
              exact ih32 (0) (show 0 ≤ (0 : Int) ∧ (0 : Int) ≤ 1 from by omega)
            · refine k_iff (F := (fun t => (k_pPB sh R_canServeByCounting) (k_els (r_canServeByCounting_32 σ p) (k_cn2 (k_for (b_canServeByCounting_32 σ p) n32 (i32 + 1)) t)))) (Int.not_lt.mpr h21) ?_
              refine k_iconst (v := 1) dX8_canServeByCounting_189 rfl ?_
              refine k_goto (tgt := 194) dX8_canServeByCounting_190 rfl ?_
              refine k_istore_n (ls' := [(0, .ref 123), (1, .int (iI (p))), (2, .int (iI (1))), (3, .int (iI (1 + (i32 : Int)))), (4, .int (iI (x60))), (5, .int (iI (x86))), (6, .int (iI (((((σ 124) 1).toNat : Nat) : Int))))]) dX8_canServeByCounting_194 rfl (by decide) rfl rfl ?_
              refine k_iinc (ls' := [(0, .ref 123), (1, .int (iI (p))), (2, .int (iI (1))), (3, .int (iI (1 + (i32 : Int) + 1))), (4, .int (iI (x60))), (5, .int (iI (x86))), (6, .int (iI (((((σ 124) 1).toNat : Nat) : Int))))]) dX8_canServeByCounting_195 3 rfl (by decide) rfl rfl ?_
              refine k_goto (tgt := 32) dX8_canServeByCounting_198 rfl ?_
              refine k_dropr (ls' := [(0, .ref 123), (1, .int (iI (p))), (2, .int (iI (1))), (3, .int (iI (1 + (i32 : Int) + 1)))]) (ex := [(4, .int (iI (x60))), (5, .int (iI (x86))), (6, .int (iI (((((σ 124) 1).toNat : Nat) : Int))))]) rfl ?_
              refine k_lrw (q := 3) (j := 3) (a' := 1 + ((i32 + 1 : Nat) : Int)) (ls' := [(0, .ref 123), (1, .int (iI (p))), (2, .int (iI (1))), (3, .int (iI (1 + ((i32 + 1 : Nat) : Int))))]) rfl (by omega) rfl ?_
              exact ih32 (1) (show 0 ≤ (1 : Int) ∧ (1 : Int) ≤ 1 from by omega)
          · intro n86 i86 x86 hi86 hJ86 ih86
            have hJ86 : 0 ≤ x86 ∧ x86 ≤ (i86 : Int) := hJ86
            have hU86 := hJ86
            show k_V E mX8_canServeByCounting _ 86 [(0, .ref 123), (1, .int (iI (p))), (2, .int (iI (x32))), (3, .int (iI (1 + (i32 : Int)))), (4, .int (iI (x60))), (5, .int (iI (x86))), (6, .int (iI ((i86 : Int))))] [] sh (k_up σ 123 (k_u1 (σ 123) 7 (0))) _ _ ((fun t => (fun t => (k_pPB sh R_canServeByCounting) (k_els (r_canServeByCounting_32 σ p) (k_cn2 (k_for (b_canServeByCounting_32 σ p) n32 (i32 + 1)) t))) ((r_canServeByCounting_86 σ p i32 x32 x60) (k_it (b_canServeByCounting_86 σ p i32 x32 x60) n86 (i86 + 1) t))) ((b_canServeByCounting_86 σ p i32 x32 x60) i86 x86))
            unfold b_canServeByCounting_86
            refine k_iload dX8_canServeByCounting_86 6 rfl ?_
            refine k_aload_n dX8_canServeByCounting_88 0 rfl rfl (by decide) ?_
            refine k_get (kf := 0) (v := .ref 124) dX8_canServeByCounting_89 kcX8 w_1747 (by decide) (by decide) (s_123 hsh) rfl rfl ?_
            refine k_iconst (v := 1) dX8_canServeByCounting_92 rfl ?_
            refine k_iald dX8_canServeByCounting_93 (by decide) (s_124 hsh) (by omega) (by omega) (by decide) ?_
            refine k_eqst (st' := [.int (iI ((σ 124) 1)), .int (iI ((i86 : Int)))]) rfl ?_
            refine k_icmp_ge (tgt := 182) dX8_canServeByCounting_94 rfl ⟨by omega, by omega⟩ ⟨by omega, by omega⟩ (fun h22 => absurd h22 (by omega)) (fun h22 => ?_)
            refine k_iconst (v := 0) dX8_canServeByCounting_97 rfl ?_
            refine k_istore (ls' := [(0, .ref 123), (1, .int (iI (p))), (2, .int (iI (x32))), (3, .int (iI (1 + (i32 : Int)))), (4, .int (iI (x60))), (5, .int (iI (x86))), (6, .int (iI ((i86 : Int)))), (7, .int (iI (0)))]) dX8_canServeByCounting_98 (by decide) rfl rfl ?_
            refine k_iconst (v := 0) dX8_canServeByCounting_100 rfl ?_
            refine k_istore (ls' := [(0, .ref 123), (1, .int (iI (p))), (2, .int (iI (x32))), (3, .int (iI (1 + (i32 : Int)))), (4, .int (iI (x60))), (5, .int (iI (x86))), (6, .int (iI ((i86 : Int)))), (7, .int (iI (0))), (8, .int (iI (0)))]) dX8_canServeByCounting_101 (by decide) rfl rfl ?_
            refine k_loop (α := Int) (P := fun (i103 : Nat) (x103 : Int) Q => k_V E mX8_canServeByCounting _ 103 [(0, .ref 123), (1, .int (iI (p))), (2, .int (iI (x32))), (3, .int (iI (1 + (i32 : Int)))), (4, .int (iI (x60))), (5, .int (iI (x86))), (6, .int (iI ((i86 : Int)))), (7, .int (iI (x103))), (8, .int (iI ((i103 : Int))))] [] sh (k_up σ 123 (k_u1 (σ 123) 7 (0))) _ _ Q) (J := fun (i103 : Nat) (x103 : Int) => 0 ≤ x103 ∧ x103 ≤ 1) (((σ 124) (45 + p).toNat).toNat) (b_canServeByCounting_103 σ p i32 x32 x60 i86 x86) (0) (F := fun t => (fun t => (fun t => (k_pPB sh R_canServeByCounting) (k_els (r_canServeByCounting_32 σ p) (k_cn2 (k_for (b_canServeByCounting_32 σ p) n32 (i32 + 1)) t))) ((r_canServeByCounting_86 σ p i32 x32 x60) (k_it (b_canServeByCounting_86 σ p i32 x32 x60) n86 (i86 + 1) t))) ((r_canServeByCounting_103 σ p i32 x32 x60 i86 x86) t)) (show 0 ≤ (0 : Int) ∧ (0 : Int) ≤ 1 from by omega) ?_ ?_
            · intro x103 hJ103
              have hJ103 : 0 ≤ x103 ∧ x103 ≤ 1 := hJ103
              have hU103 := hJ103
              show k_V E mX8_canServeByCounting _ 103 [(0, .ref 123), (1, .int (iI (p))), (2, .int (iI (x32))), (3, .int (iI (1 + (i32 : Int)))), (4, .int (iI (x60))), (5, .int (iI (x86))), (6, .int (iI ((i86 : Int)))), (7, .int (iI (x103))), (8, .int (iI (((((σ 124) (45 + p).toNat).toNat : Nat) : Int))))] [] sh (k_up σ 123 (k_u1 (σ 123) 7 (0))) _ _ ((fun t => (fun t => (k_pPB sh R_canServeByCounting) (k_els (r_canServeByCounting_32 σ p) (k_cn2 (k_for (b_canServeByCounting_32 σ p) n32 (i32 + 1)) t))) ((r_canServeByCounting_86 σ p i32 x32 x60) (k_it (b_canServeByCounting_86 σ p i32 x32 x60) n86 (i86 + 1) t))) ((r_canServeByCounting_103 σ p i32 x32 x60 i86 x86) x103))
              unfold r_canServeByCounting_103
              refine k_iload dX8_canServeByCounting_103 8 rfl ?_
              refine k_aload_n dX8_canServeByCounting_105 0 rfl rfl (by decide) ?_
              refine k_get (kf := 0) (v := .ref 124) dX8_canServeByCounting_106 kcX8 w_1747 (by decide) (by decide) (s_123 hsh) rfl rfl ?_
              refine k_bipush (v := 45) dX8_canServeByCounting_109 (by decide) ?_
              refine k_iload_n dX8_canServeByCounting_111 1 rfl rfl ?_
              refine k_iadd dX8_canServeByCounting_112 ?_
              refine k_iald dX8_canServeByCounting_113 (by decide) (s_124 hsh) (by omega) (by omega) (by decide) ?_
              refine k_eqst (st' := [.int (iI ((σ 124) (45 + p).toNat)), .int (iI (((((σ 124) (45 + p).toNat).toNat : Nat) : Int)))]) rfl ?_
              have q24 := k_Mo_many (hMA).2.1 (x := 45 + p) (by omega) (by omega)
              refine k_icmp_ge (tgt := 161) dX8_canServeByCounting_114 rfl ⟨by omega, by omega⟩ ⟨by omega, by omega⟩ (fun h25 => ?_) (fun h25 => absurd h25 (by omega))
              refine k_iload dX8_canServeByCounting_161 5 rfl ?_
              refine k_iload dX8_canServeByCounting_163 7 rfl ?_
              refine k_if_eq (tgt := 172) dX8_canServeByCounting_165 rfl ⟨by omega, by omega⟩ (fun h26 => ?_) (fun h26 => ?_)
              · refine k_ift (F := (fun t => (fun t => (k_pPB sh R_canServeByCounting) (k_els (r_canServeByCounting_32 σ p) (k_cn2 (k_for (b_canServeByCounting_32 σ p) n32 (i32 + 1)) t))) ((r_canServeByCounting_86 σ p i32 x32 x60) (k_it (b_canServeByCounting_86 σ p i32 x32 x60) n86 (i86 + 1) t)))) h26 ?_
                refine k_iconst (v := 0) dX8_canServeByCounting_172 rfl ?_
                refine k_iadd dX8_canServeByCounting_173 ?_
                refine k_istore (ls' := [(0, .ref 123), (1, .int (iI (p))), (2, .int (iI (x32))), (3, .int (iI (1 + (i32 : Int)))), (4, .int (iI (x60))), (5, .int (iI (x86 + 0))), (6, .int (iI ((i86 : Int)))), (7, .int (iI (x103))), (8, .int (iI (((((σ 124) (45 + p).toNat).toNat : Nat) : Int))))]) dX8_canServeByCounting_174 (by decide) rfl rfl ?_
                refine k_iinc (ls' := [(0, .ref 123), (1, .int (iI (p))), (2, .int (iI (x32))), (3, .int (iI (1 + (i32 : Int)))), (4, .int (iI (x60))), (5, .int (iI (x86 + 0))), (6, .int (iI ((i86 : Int) + 1))), (7, .int (iI (x103))), (8, .int (iI (((((σ 124) (45 + p).toNat).toNat : Nat) : Int))))]) dX8_canServeByCounting_176 6 rfl (by decide) rfl rfl ?_
                refine k_goto (tgt := 86) dX8_canServeByCounting_179 rfl ?_
                refine k_dropr (ls' := [(0, .ref 123), (1, .int (iI (p))), (2, .int (iI (x32))), (3, .int (iI (1 + (i32 : Int)))), (4, .int (iI (x60))), (5, .int (iI (x86 + 0))), (6, .int (iI ((i86 : Int) + 1)))]) (ex := [(7, .int (iI (x103))), (8, .int (iI (((((σ 124) (45 + p).toNat).toNat : Nat) : Int))))]) rfl ?_
                exact ih86 (x86 + 0) (show 0 ≤ x86 + 0 ∧ x86 + 0 ≤ ((i86 + 1 : Nat) : Int) from by omega)
              · refine k_iff (F := (fun t => (fun t => (k_pPB sh R_canServeByCounting) (k_els (r_canServeByCounting_32 σ p) (k_cn2 (k_for (b_canServeByCounting_32 σ p) n32 (i32 + 1)) t))) ((r_canServeByCounting_86 σ p i32 x32 x60) (k_it (b_canServeByCounting_86 σ p i32 x32 x60) n86 (i86 + 1) t)))) h26 ?_
                refine k_iconst (v := 1) dX8_canServeByCounting_168 rfl ?_
                refine k_goto (tgt := 173) dX8_canServeByCounting_169 rfl ?_
                refine k_iadd dX8_canServeByCounting_173 ?_
                refine k_istore (ls' := [(0, .ref 123), (1, .int (iI (p))), (2, .int (iI (x32))), (3, .int (iI (1 + (i32 : Int)))), (4, .int (iI (x60))), (5, .int (iI (x86 + 1))), (6, .int (iI ((i86 : Int)))), (7, .int (iI (x103))), (8, .int (iI (((((σ 124) (45 + p).toNat).toNat : Nat) : Int))))]) dX8_canServeByCounting_174 (by decide) rfl rfl ?_
                refine k_iinc (ls' := [(0, .ref 123), (1, .int (iI (p))), (2, .int (iI (x32))), (3, .int (iI (1 + (i32 : Int)))), (4, .int (iI (x60))), (5, .int (iI (x86 + 1))), (6, .int (iI ((i86 : Int) + 1))), (7, .int (iI (x103))), (8, .int (iI (((((σ 124) (45 + p).toNat).toNat : Nat) : Int))))]) dX8_canServeByCounting_176 6 rfl (by decide) rfl rfl ?_
                refine k_goto (tgt := 86) dX8_canServeByCounting_179 rfl ?_
                refine k_dropr (ls' := [(0, .ref 123), (1, .int (iI (p))), (2, .int (iI (x32))), (3, .int (iI (1 + (i32 : Int)))), (4, .int (iI (x60))), (5, .int (iI (x86 + 1))), (6, .int (iI ((i86 : Int) + 1)))]) (ex := [(7, .int (iI (x103))), (8, .int (iI (((((σ 124) (45 + p).toNat).toNat : Nat) : Int))))]) rfl ?_
                exact ih86 (x86 + 1) (show 0 ≤ x86 + 1 ∧ x86 + 1 ≤ ((i86 + 1 : Nat) : Int) from by omega)
            · intro n103 i103 x103 hi103 hJ103 ih103
              have hJ103 : 0 ≤ x103 ∧ x103 ≤ 1 := hJ103
              have hU103 := hJ103
              show k_V E mX8_canServeByCounting _ 103 [(0, .ref 123), (1, .int (iI (p))), (2, .int (iI (x32))), (3, .int (iI (1 + (i32 : Int)))), (4, .int (iI (x60))), (5, .int (iI (x86))), (6, .int (iI ((i86 : Int)))), (7, .int (iI (x103))), (8, .int (iI ((i103 : Int))))] [] sh (k_up σ 123 (k_u1 (σ 123) 7 (0))) _ _ ((fun t => (fun t => (fun t => (k_pPB sh R_canServeByCounting) (k_els (r_canServeByCounting_32 σ p) (k_cn2 (k_for (b_canServeByCounting_32 σ p) n32 (i32 + 1)) t))) ((r_canServeByCounting_86 σ p i32 x32 x60) (k_it (b_canServeByCounting_86 σ p i32 x32 x60) n86 (i86 + 1) t))) ((r_canServeByCounting_103 σ p i32 x32 x60 i86 x86) (k_it (b_canServeByCounting_103 σ p i32 x32 x60 i86 x86) n103 (i103 + 1) t))) ((b_canServeByCounting_103 σ p i32 x32 x60 i86 x86) i103 x103))
              unfold b_canServeByCounting_103
              refine k_iload dX8_canServeByCounting_103 8 rfl ?_
              refine k_aload_n dX8_canServeByCounting_105 0 rfl rfl (by decide) ?_
              refine k_get (kf := 0) (v := .ref 124) dX8_canServeByCounting_106 kcX8 w_1747 (by decide) (by decide) (s_123 hsh) rfl rfl ?_
              refine k_bipush (v := 45) dX8_canServeByCounting_109 (by decide) ?_
              refine k_iload_n dX8_canServeByCounting_111 1 rfl rfl ?_
              refine k_iadd dX8_canServeByCounting_112 ?_
              refine k_iald dX8_canServeByCounting_113 (by decide) (s_124 hsh) (by omega) (by omega) (by decide) ?_
              refine k_eqst (st' := [.int (iI ((σ 124) (45 + p).toNat)), .int (iI ((i103 : Int)))]) rfl ?_
              have q27 := k_Mo_many (hMA).2.1 (x := 45 + p) (by omega) (by omega)
              refine k_icmp_ge (tgt := 161) dX8_canServeByCounting_114 rfl ⟨by omega, by omega⟩ ⟨by omega, by omega⟩ (fun h28 => absurd h28 (by omega)) (fun h28 => ?_)
              refine k_iload dX8_canServeByCounting_117 7 rfl ?_
              refine k_if_ne (tgt := 148) dX8_canServeByCounting_119 rfl ⟨by omega, by omega⟩ (fun h29 => ?_) (fun h29 => ?_)
              · refine k_iff (F := (fun t => (fun t => (fun t => (k_pPB sh R_canServeByCounting) (k_els (r_canServeByCounting_32 σ p) (k_cn2 (k_for (b_canServeByCounting_32 σ p) n32 (i32 + 1)) t))) ((r_canServeByCounting_86 σ p i32 x32 x60) (k_it (b_canServeByCounting_86 σ p i32 x32 x60) n86 (i86 + 1) t))) ((r_canServeByCounting_103 σ p i32 x32 x60 i86 x86) (k_it (b_canServeByCounting_103 σ p i32 x32 x60 i86 x86) n103 (i103 + 1) t)))) h29 ?_
                refine k_iconst (v := 1) dX8_canServeByCounting_148 rfl ?_
                refine k_goto (tgt := 153) dX8_canServeByCounting_149 rfl ?_
                refine k_istore (ls' := [(0, .ref 123), (1, .int (iI (p))), (2, .int (iI (x32))), (3, .int (iI (1 + (i32 : Int)))), (4, .int (iI (x60))), (5, .int (iI (x86))), (6, .int (iI ((i86 : Int)))), (7, .int (iI (1))), (8, .int (iI ((i103 : Int))))]) dX8_canServeByCounting_153 (by decide) rfl rfl ?_
                refine k_iinc (ls' := [(0, .ref 123), (1, .int (iI (p))), (2, .int (iI (x32))), (3, .int (iI (1 + (i32 : Int)))), (4, .int (iI (x60))), (5, .int (iI (x86))), (6, .int (iI ((i86 : Int)))), (7, .int (iI (1))), (8, .int (iI ((i103 : Int) + 1)))]) dX8_canServeByCounting_155 8 rfl (by decide) rfl rfl ?_
                refine k_goto (tgt := 103) dX8_canServeByCounting_158 rfl ?_
                exact ih103 (1) (show 0 ≤ (1 : Int) ∧ (1 : Int) ≤ 1 from by omega)
              · refine k_ift (F := (fun t => (fun t => (fun t => (k_pPB sh R_canServeByCounting) (k_els (r_canServeByCounting_32 σ p) (k_cn2 (k_for (b_canServeByCounting_32 σ p) n32 (i32 + 1)) t))) ((r_canServeByCounting_86 σ p i32 x32 x60) (k_it (b_canServeByCounting_86 σ p i32 x32 x60) n86 (i86 + 1) t))) ((r_canServeByCounting_103 σ p i32 x32 x60 i86 x86) (k_it (b_canServeByCounting_103 σ p i32 x32 x60 i86 x86) n103 (i103 + 1) t)))) h29 ?_
                refine k_iload_n dX8_canServeByCounting_122 3 rfl rfl ?_
                refine k_iload dX8_canServeByCounting_123 8 rfl ?_
                refine k_ishr (v := (iI (z_shr (1 + (i32 : Int)) ((i103 : Int))))) dX8_canServeByCounting_125 (zz_shrI (by omega) (by omega) (by omega) (by omega)) ?_
                have q30 := z_shr_nn (1 + (i32 : Int)) ((i103 : Int))
                have q31 := z_shr_le (1 + (i32 : Int)) ((i103 : Int)) (by omega)
                refine k_iconst (v := 1) dX8_canServeByCounting_126 rfl ?_
                refine k_iand (v := (iI (z_and (z_shr (1 + (i32 : Int)) ((i103 : Int))) (1)))) dX8_canServeByCounting_127 (z_andI (z_shr_nn _ _) (by omega)) ?_
                have q32 := z_and_nn (z_shr (1 + (i32 : Int)) ((i103 : Int))) (1)
                have q33 := z_and_le (z_shr (1 + (i32 : Int)) ((i103 : Int))) (1) (z_shr_nn _ _)
                have q34 := z_and_le2 (z_shr (1 + (i32 : Int)) ((i103 : Int))) (1) (by decide)
                refine k_iconst (v := 1) dX8_canServeByCounting_128 rfl ?_
                refine k_icmp_ne (tgt := 152) dX8_canServeByCounting_129 rfl ⟨by omega, by omega⟩ ⟨by decide, by decide⟩ (fun h35 => ?_) (fun h35 => ?_)
                · refine k_iff (F := (fun t => (fun t => (fun t => (k_pPB sh R_canServeByCounting) (k_els (r_canServeByCounting_32 σ p) (k_cn2 (k_for (b_canServeByCounting_32 σ p) n32 (i32 + 1)) t))) ((r_canServeByCounting_86 σ p i32 x32 x60) (k_it (b_canServeByCounting_86 σ p i32 x32 x60) n86 (i86 + 1) t))) ((r_canServeByCounting_103 σ p i32 x32 x60 i86 x86) (k_it (b_canServeByCounting_103 σ p i32 x32 x60 i86 x86) n103 (i103 + 1) t)))) h35 ?_
                  refine k_iconst (v := 0) dX8_canServeByCounting_152 rfl ?_
                  refine k_istore (ls' := [(0, .ref 123), (1, .int (iI (p))), (2, .int (iI (x32))), (3, .int (iI (1 + (i32 : Int)))), (4, .int (iI (x60))), (5, .int (iI (x86))), (6, .int (iI ((i86 : Int)))), (7, .int (iI (0))), (8, .int (iI ((i103 : Int))))]) dX8_canServeByCounting_153 (by decide) rfl rfl ?_
                  refine k_iinc (ls' := [(0, .ref 123), (1, .int (iI (p))), (2, .int (iI (x32))), (3, .int (iI (1 + (i32 : Int)))), (4, .int (iI (x60))), (5, .int (iI (x86))), (6, .int (iI ((i86 : Int)))), (7, .int (iI (0))), (8, .int (iI ((i103 : Int) + 1)))]) dX8_canServeByCounting_155 8 rfl (by decide) rfl rfl ?_
                  refine k_goto (tgt := 103) dX8_canServeByCounting_158 rfl ?_
                  exact ih103 (0) (show 0 ≤ (0 : Int) ∧ (0 : Int) ≤ 1 from by omega)
                · refine k_ift (F := (fun t => (fun t => (fun t => (k_pPB sh R_canServeByCounting) (k_els (r_canServeByCounting_32 σ p) (k_cn2 (k_for (b_canServeByCounting_32 σ p) n32 (i32 + 1)) t))) ((r_canServeByCounting_86 σ p i32 x32 x60) (k_it (b_canServeByCounting_86 σ p i32 x32 x60) n86 (i86 + 1) t))) ((r_canServeByCounting_103 σ p i32 x32 x60 i86 x86) (k_it (b_canServeByCounting_103 σ p i32 x32 x60 i86 x86) n103 (i103 + 1) t)))) h35 ?_
                  refine k_aload_n dX8_canServeByCounting_132 0 rfl rfl (by decide) ?_
                  refine k_aload_n dX8_canServeByCounting_133 0 rfl rfl (by decide) ?_
                  refine k_iload_n dX8_canServeByCounting_134 1 rfl rfl ?_
                  refine k_iload dX8_canServeByCounting_135 8 rfl ?_
                  refine k_callVr (st := [.ref 123]) (as := [.int (iI (p)), .int (iI ((i103 : Int)))]) dX8_canServeByCounting_137 oX8_wish w_2000 w_2002 w_51 rfl (by omega) rfl (Nat.le_of_ble_eq_true rfl) (by decide) (s_123 hsh) rfl (c8_wish (σ := (k_up σ 123 (k_u1 (σ 123) 7 (0)))) hsh (hMA).2.1 (by omega) (by omega)) ?_
                  refine k_eqst (st' := [.int (iI ((σ 124) (57 + 3 * p + (i103 : Int)).toNat)), .ref 123]) rfl ?_
                  have q36 := k_Mo_wish (hMA).2.1 (x := 57 + 3 * p + (i103 : Int)) (by omega) (by omega)
                  refine k_iload dX8_canServeByCounting_140 6 rfl ?_
                  refine k_callVr (st := []) (as := [.int (iI ((σ 124) (57 + 3 * p + (i103 : Int)).toNat)), .int (iI ((i86 : Int)))]) dX8_canServeByCounting_142 oX8_hasOpen w_1928 w_1930 w_42 rfl (by omega) rfl (Nat.le_of_ble_eq_true rfl) (by decide) (s_123 hsh) rfl (c8_hasOpen (σ := (k_up σ 123 (k_u1 (σ 123) 7 (0)))) hsh (hMA).2.1 (by omega) (by omega)) ?_
                  refine k_eqst (st' := [.int (iI (zb ((σ 124) (17 + 4 * ((σ 124) (57 + 3 * p + (i103 : Int)).toNat) + (i86 : Int)).toNat = 1)))]) rfl ?_
                  refine k_if_eq (tgt := 152) dX8_canServeByCounting_145 rfl (zb_kr _) (fun h39 => ?_) (fun h39 => ?_)
                  · have h39 := zb_0.mp h39
                    refine k_iff (F := (fun t => (fun t => (fun t => (k_pPB sh R_canServeByCounting) (k_els (r_canServeByCounting_32 σ p) (k_cn2 (k_for (b_canServeByCounting_32 σ p) n32 (i32 + 1)) t))) ((r_canServeByCounting_86 σ p i32 x32 x60) (k_it (b_canServeByCounting_86 σ p i32 x32 x60) n86 (i86 + 1) t))) ((r_canServeByCounting_103 σ p i32 x32 x60 i86 x86) (k_it (b_canServeByCounting_103 σ p i32 x32 x60 i86 x86) n103 (i103 + 1) t)))) h39 ?_
                    refine k_iconst (v := 0) dX8_canServeByCounting_152 rfl ?_
                    refine k_istore (ls' := [(0, .ref 123), (1, .int (iI (p))), (2, .int (iI (x32))), (3, .int (iI (1 + (i32 : Int)))), (4, .int (iI (x60))), (5, .int (iI (x86))), (6, .int (iI ((i86 : Int)))), (7, .int (iI (0))), (8, .int (iI ((i103 : Int))))]) dX8_canServeByCounting_153 (by decide) rfl rfl ?_
                    refine k_iinc (ls' := [(0, .ref 123), (1, .int (iI (p))), (2, .int (iI (x32))), (3, .int (iI (1 + (i32 : Int)))), (4, .int (iI (x60))), (5, .int (iI (x86))), (6, .int (iI ((i86 : Int)))), (7, .int (iI (0))), (8, .int (iI ((i103 : Int) + 1)))]) dX8_canServeByCounting_155 8 rfl (by decide) rfl rfl ?_
                    refine k_goto (tgt := 103) dX8_canServeByCounting_158 rfl ?_
                    exact ih103 (0) (show 0 ≤ (0 : Int) ∧ (0 : Int) ≤ 1 from by omega)
                  · have h39 := zb_n0.mp h39
                    refine k_ift (F := (fun t => (fun t => (fun t => (k_pPB sh R_canServeByCounting) (k_els (r_canServeByCounting_32 σ p) (k_cn2 (k_for (b_canServeByCounting_32 σ p) n32 (i32 + 1)) t))) ((r_canServeByCounting_86 σ p i32 x32 x60) (k_it (b_canServeByCounting_86 σ p i32 x32 x60) n86 (i86 + 1) t))) ((r_canServeByCounting_103 σ p i32 x32 x60 i86 x86) (k_it (b_canServeByCounting_103 σ p i32 x32 x60 i86 x86) n103 (i103 + 1) t)))) h39 ?_
                    refine k_iconst (v := 1) dX8_canServeByCounting_148 rfl ?_
                    refine k_goto (tgt := 153) dX8_canServeByCounting_149 rfl ?_
                    refine k_istore (ls' := [(0, .ref 123), (1, .int (iI (p))), (2, .int (iI (x32))), (3, .int (iI (1 + (i32 : Int)))), (4, .int (iI (x60))), (5, .int (iI (x86))), (6, .int (iI ((i86 : Int)))), (7, .int (iI (1))), (8, .int (iI ((i103 : Int))))]) dX8_canServeByCounting_153 (by decide) rfl rfl ?_
                    refine k_iinc (ls' := [(0, .ref 123), (1, .int (iI (p))), (2, .int (iI (x32))), (3, .int (iI (1 + (i32 : Int)))), (4, .int (iI (x60))), (5, .int (iI (x86))), (6, .int (iI ((i86 : Int)))), (7, .int (iI (1))), (8, .int (iI ((i103 : Int) + 1)))]) dX8_canServeByCounting_155 8 rfl (by decide) rfl rfl ?_
                    refine k_goto (tgt := 103) dX8_canServeByCounting_158 rfl ?_
                    exact ih103 (1) (show 0 ≤ (1 : Int) ∧ (1 : Int) ≤ 1 from by omega)
        · intro n60 i60 x60 hi60 hJ60 ih60
          have hJ60 : 0 ≤ x60 ∧ x60 ≤ (i60 : Int) := hJ60
          have hU60 := hJ60
          show k_V E mX8_canServeByCounting _ 60 [(0, .ref 123), (1, .int (iI (p))), (2, .int (iI (x32))), (3, .int (iI (1 + (i32 : Int)))), (4, .int (iI (x60))), (5, .int (iI (0))), (6, .int (iI ((i60 : Int))))] [] sh (k_up σ 123 (k_u1 (σ 123) 7 (0))) _ _ ((fun t => (fun t => (k_pPB sh R_canServeByCounting) (k_els (r_canServeByCounting_32 σ p) (k_cn2 (k_for (b_canServeByCounting_32 σ p) n32 (i32 + 1)) t))) ((r_canServeByCounting_60 σ p i32 x32) (k_it (b_canServeByCounting_60 σ p i32 x32) n60 (i60 + 1) t))) ((b_canServeByCounting_60 σ p i32 x32) i60 x60))
          unfold b_canServeByCounting_60
          refine k_iload dX8_canServeByCounting_60 6 rfl ?_
          refine k_iconst (v := 3) dX8_canServeByCounting_62 rfl ?_
          refine k_icmp_ge (tgt := 83) dX8_canServeByCounting_63 rfl ⟨by omega, by omega⟩ ⟨by decide, by decide⟩ (fun h40 => absurd h40 (by omega)) (fun h40 => ?_)
          refine k_iload dX8_canServeByCounting_66 4 rfl ?_
          refine k_iload_n dX8_canServeByCounting_68 3 rfl rfl ?_
          refine k_iload dX8_canServeByCounting_69 6 rfl ?_
          refine k_ishr (v := (iI (z_shr (1 + (i32 : Int)) ((i60 : Int))))) dX8_canServeByCounting_71 (zz_shrI (by omega) (by omega) (by omega) (by omega)) ?_
          have q41 := z_shr_nn (1 + (i32 : Int)) ((i60 : Int))
          have q42 := z_shr_le (1 + (i32 : Int)) ((i60 : Int)) (by omega)
          refine k_iconst (v := 1) dX8_canServeByCounting_72 rfl ?_
          refine k_iand (v := (iI (z_and (z_shr (1 + (i32 : Int)) ((i60 : Int))) (1)))) dX8_canServeByCounting_73 (z_andI (z_shr_nn _ _) (by omega)) ?_
          have q43 := z_and_nn (z_shr (1 + (i32 : Int)) ((i60 : Int))) (1)
          have q44 := z_and_le (z_shr (1 + (i32 : Int)) ((i60 : Int))) (1) (z_shr_nn _ _)
          have q45 := z_and_le2 (z_shr (1 + (i32 : Int)) ((i60 : Int))) (1) (by decide)
          refine k_iadd dX8_canServeByCounting_74 ?_
          refine k_istore (ls' := [(0, .ref 123), (1, .int (iI (p))), (2, .int (iI (x32))), (3, .int (iI (1 + (i32 : Int)))), (4, .int (iI (x60 + (z_and (z_shr (1 + (i32 : Int)) ((i60 : Int))) (1))))), (5, .int (iI (0))), (6, .int (iI ((i60 : Int))))]) dX8_canServeByCounting_75 (by decide) rfl rfl ?_
          refine k_iinc (ls' := [(0, .ref 123), (1, .int (iI (p))), (2, .int (iI (x32))), (3, .int (iI (1 + (i32 : Int)))), (4, .int (iI (x60 + (z_and (z_shr (1 + (i32 : Int)) ((i60 : Int))) (1))))), (5, .int (iI (0))), (6, .int (iI ((i60 : Int) + 1)))]) dX8_canServeByCounting_77 6 rfl (by decide) rfl rfl ?_
          refine k_goto (tgt := 60) dX8_canServeByCounting_80 rfl ?_
          exact ih60 (x60 + (z_and (z_shr (1 + (i32 : Int)) ((i60 : Int))) (1))) (show 0 ≤ x60 + (z_and (z_shr (1 + (i32 : Int)) ((i60 : Int))) (1)) ∧ x60 + (z_and (z_shr (1 + (i32 : Int)) ((i60 : Int))) (1)) ≤ ((i60 + 1 : Nat) : Int) from by omega)
abbrev R_servedCount (t : Int × (Nat → Nat → Int)) : Prop := (-1 ≤ t.1 ∧ t.1 ≤ 1000) ∧ k_MA t.2
def r_servedCount_4 (σ : Nat → Nat → Int) (x4 : Int) : Int × (Nat → Nat → Int) := (x4, (k_up σ 123 (k_u1 (σ 123) 7 (0))))
def b_servedCount_4 (σ : Nat → Nat → Int) (i4 : Nat) (x4 : Int) : Int := if m_isServed (σ 124) (i4 : Int) = true then x4 + 1 else x4 + 0
def m_servedCount (σ : Nat → Nat → Int) : Int × (Nat → Nat → Int) := (r_servedCount_4 σ) (k_it (b_servedCount_4 σ) (((σ 124) 2).toNat) 0 (0))
set_option maxRecDepth 100000 in
set_option maxHeartbeats 4000000 in
theorem c8_servedCount (hsh : k_Main sh) (hMA : k_MA σ)  : k_C E mX8_servedCount 4 [.ref 123] sh σ 0 0 ((k_pP sh R_servedCount) (m_servedCount σ)) := by
  refine k_C_of (ls0 := [(0, .ref 123)]) rfl pnX8 (fun v hv => k_cat1 rfl hv) (Nat.le_of_ble_eq_true rfl) rfl ?_
  obtain ⟨⟨t0, t0b⟩, ⟨t1, t1b⟩, ⟨t2, t2b⟩, ⟨t3, t3b⟩, -⟩ := id hMA.2.1
  obtain ⟨⟨f7_0, g7_0⟩, ⟨f7_1, g7_1⟩, ⟨f7_2, g7_2⟩, ⟨f7_3, g7_3⟩, ⟨f7_4, g7_4⟩, ⟨f7_5, g7_5⟩, ⟨f7_6, g7_6⟩, ⟨f7_7, g7_7⟩, ⟨f7_8, g7_8⟩, ⟨f7_9, g7_9⟩, ⟨f7_10, g7_10⟩, ⟨f7_11, g7_11⟩, ⟨f7_12, g7_12⟩, ⟨f7_13, g7_13⟩⟩ := id hMA.1
  unfold m_servedCount
  refine k_iconst (v := 0) dX8_servedCount_0 rfl ?_
  refine k_istore_n (ls' := [(0, .ref 123), (1, .int (iI (0)))]) dX8_servedCount_1 rfl (by decide) rfl rfl ?_
  refine k_iconst (v := 0) dX8_servedCount_2 rfl ?_
  refine k_istore_n (ls' := [(0, .ref 123), (1, .int (iI (0))), (2, .int (iI (0)))]) dX8_servedCount_3 rfl (by decide) rfl rfl ?_
  refine k_loop (α := Int) (P := fun (i4 : Nat) (x4 : Int) Q => k_V E mX8_servedCount _ 4 [(0, .ref 123), (1, .int (iI (x4))), (2, .int (iI ((i4 : Int))))] [] sh σ _ _ Q) (J := fun (i4 : Nat) (x4 : Int) => 0 ≤ x4 ∧ x4 ≤ (i4 : Int)) (((σ 124) 2).toNat) (b_servedCount_4 σ) (0) (F := fun t => (k_pP sh R_servedCount) ((r_servedCount_4 σ) t)) (show 0 ≤ (0 : Int) ∧ (0 : Int) ≤ ((0 : Nat) : Int) from by omega) ?_ ?_
  · intro x4 hJ4
    have hJ4 : 0 ≤ x4 ∧ x4 ≤ ((((σ 124) 2).toNat : Nat) : Int) := hJ4
    have hU4 := hJ4
    show k_V E mX8_servedCount _ 4 [(0, .ref 123), (1, .int (iI (x4))), (2, .int (iI (((((σ 124) 2).toNat : Nat) : Int))))] [] sh σ _ _ ((k_pP sh R_servedCount) ((r_servedCount_4 σ) x4))
    unfold r_servedCount_4
    refine k_iload_n dX8_servedCount_4 2 rfl rfl ?_
    refine k_aload_n dX8_servedCount_5 0 rfl rfl (by decide) ?_
    refine k_get (kf := 0) (v := .ref 124) dX8_servedCount_6 kcX8 w_1747 (by decide) (by decide) (s_123 hsh) rfl rfl ?_
    refine k_iconst (v := 2) dX8_servedCount_9 rfl ?_
    refine k_iald dX8_servedCount_10 (by decide) (s_124 hsh) (by omega) (by omega) (by decide) ?_
    refine k_eqst (st' := [.int (iI ((σ 124) 2)), .int (iI (((((σ 124) 2).toNat : Nat) : Int)))]) rfl ?_
    refine k_icmp_ge (tgt := 36) dX8_servedCount_11 rfl ⟨by omega, by omega⟩ ⟨by omega, by omega⟩ (fun h2 => ?_) (fun h2 => absurd h2 (by omega))
    refine k_aload_n dX8_servedCount_36 0 rfl rfl (by decide) ?_
    refine k_iload_n dX8_servedCount_37 1 rfl rfl ?_
    refine k_callVr (st := []) (as := [.int (iI (x4))]) dX8_servedCount_38 oX8_tells w_1854 w_1856 w_32 rfl (by omega) rfl (Nat.le_of_ble_eq_true rfl) (by decide) (s_123 hsh) rfl (c8_tells hsh) ?_
    refine k_eqσ (σ' := (k_up σ 123 (k_u1 (σ 123) 7 (0)))) ((show k_up σ 123 (k_u1 (σ 123) 7 (0)) = (k_up σ 123 (k_u1 (σ 123) 7 (0))) from rfl)).symm ?_
    exact k_retiP dX8_servedCount_41 rfl rfl rfl (show (-1 ≤ x4 ∧ x4 ≤ 1000) ∧ k_MA (k_up σ 123 (k_u1 (σ 123) 7 (0))) from ⟨by omega, ⟨(show k_F0 (k_u1 (σ 123) 7 (0)) from (k_F0_u (hMA).1 (by omega))), (hMA).2.1, (hMA).2.2.1, (hMA).2.2.2.1, (hMA).2.2.2.2.1, (hMA).2.2.2.2.2.1, (hMA).2.2.2.2.2.2.1, (hMA).2.2.2.2.2.2.2.1, (hMA).2.2.2.2.2.2.2.2.1, (hMA).2.2.2.2.2.2.2.2.2.1, (hMA).2.2.2.2.2.2.2.2.2.2.1, (hMA).2.2.2.2.2.2.2.2.2.2.2.1, (hMA).2.2.2.2.2.2.2.2.2.2.2.2⟩⟩)
  · intro n4 i4 x4 hi4 hJ4 ih4
    have hJ4 : 0 ≤ x4 ∧ x4 ≤ (i4 : Int) := hJ4
    have hU4 := hJ4
    show k_V E mX8_servedCount _ 4 [(0, .ref 123), (1, .int (iI (x4))), (2, .int (iI ((i4 : Int))))] [] sh σ _ _ ((fun t => (k_pP sh R_servedCount) ((r_servedCount_4 σ) (k_it (b_servedCount_4 σ) n4 (i4 + 1) t))) ((b_servedCount_4 σ) i4 x4))
    unfold b_servedCount_4
    refine k_iload_n dX8_servedCount_4 2 rfl rfl ?_
    refine k_aload_n dX8_servedCount_5 0 rfl rfl (by decide) ?_
    refine k_get (kf := 0) (v := .ref 124) dX8_servedCount_6 kcX8 w_1747 (by decide) (by decide) (s_123 hsh) rfl rfl ?_
    refine k_iconst (v := 2) dX8_servedCount_9 rfl ?_
    refine k_iald dX8_servedCount_10 (by decide) (s_124 hsh) (by omega) (by omega) (by decide) ?_
    refine k_eqst (st' := [.int (iI ((σ 124) 2)), .int (iI ((i4 : Int)))]) rfl ?_
    refine k_icmp_ge (tgt := 36) dX8_servedCount_11 rfl ⟨by omega, by omega⟩ ⟨by omega, by omega⟩ (fun h4 => absurd h4 (by omega)) (fun h4 => ?_)
    refine k_iload_n dX8_servedCount_14 1 rfl rfl ?_
    refine k_aload_n dX8_servedCount_15 0 rfl rfl (by decide) ?_
    refine k_iload_n dX8_servedCount_16 2 rfl rfl ?_
    refine k_callVrP (st := [.int (iI (x4))]) (as := [.int (iI ((i4 : Int)))]) dX8_servedCount_17 oX8_isServed w_2068 w_2070 w_60 rfl (by omega) rfl (Nat.le_of_ble_eq_true rfl) (by decide) (s_123 hsh) rfl (c8_isServed hsh (hMA).2.1 (by omega)) (fun z5 => ?_)
    refine k_if_eq (tgt := 27) dX8_servedCount_20 rfl (zb_kr _) (fun h6 => ?_) (fun h6 => ?_)
    · have h6 := zb_0.mp h6
      refine k_iff (F := (fun t => (k_pP sh R_servedCount) ((r_servedCount_4 σ) (k_it (b_servedCount_4 σ) n4 (i4 + 1) t)))) h6 ?_
      refine k_iconst (v := 0) dX8_servedCount_27 rfl ?_
      refine k_iadd dX8_servedCount_28 ?_
      refine k_istore_n (ls' := [(0, .ref 123), (1, .int (iI (x4 + 0))), (2, .int (iI ((i4 : Int))))]) dX8_servedCount_29 rfl (by decide) rfl rfl ?_
      refine k_iinc (ls' := [(0, .ref 123), (1, .int (iI (x4 + 0))), (2, .int (iI ((i4 : Int) + 1)))]) dX8_servedCount_30 2 rfl (by decide) rfl rfl ?_
      refine k_goto (tgt := 4) dX8_servedCount_33 rfl ?_
      exact ih4 (x4 + 0) (show 0 ≤ x4 + 0 ∧ x4 + 0 ≤ ((i4 + 1 : Nat) : Int) from by omega)
    · have h6 := zb_n0.mp h6
      refine k_ift (F := (fun t => (k_pP sh R_servedCount) ((r_servedCount_4 σ) (k_it (b_servedCount_4 σ) n4 (i4 + 1) t)))) h6 ?_
      refine k_iconst (v := 1) dX8_servedCount_23 rfl ?_
      refine k_goto (tgt := 28) dX8_servedCount_24 rfl ?_
      refine k_iadd dX8_servedCount_28 ?_
      refine k_istore_n (ls' := [(0, .ref 123), (1, .int (iI (x4 + 1))), (2, .int (iI ((i4 : Int))))]) dX8_servedCount_29 rfl (by decide) rfl rfl ?_
      refine k_iinc (ls' := [(0, .ref 123), (1, .int (iI (x4 + 1))), (2, .int (iI ((i4 : Int) + 1)))]) dX8_servedCount_30 2 rfl (by decide) rfl rfl ?_
      refine k_goto (tgt := 4) dX8_servedCount_33 rfl ?_
      exact ih4 (x4 + 1) (show 0 ≤ x4 + 1 ∧ x4 + 1 ≤ ((i4 + 1 : Nat) : Int) from by omega)
abbrev R_findsChain (t : Int × (Nat → Nat → Int)) : Prop := (-1 ≤ t.1 ∧ t.1 ≤ 3) ∧ k_MA t.2
def r_findsChain_2 (σ : Nat → Nat → Int) (p : Int) (s : Int) (x2 : (Nat → Int)) : Int × (Nat → Nat → Int) := (-1, (k_up σ 133 x2))
def r_findsChain_10 (σ : Nat → Nat → Int) (p : Int) (s : Int) (i2 : Nat) (x2 : (Nat → Int)) (x10 : (Nat → Int)) : (Int × (Nat → Nat → Int)) ⊕ ((Nat → Int)) := .inr (x10)
def r_findsChain_25 (σ : Nat → Nat → Int) (p : Int) (s : Int) (i2 : Nat) (x2 : (Nat → Int)) (i10 : Nat) (x10 : (Nat → Int)) (x25 : (Nat → Int)) : ((Int × (Nat → Nat → Int)) ⊕ ((Nat → Int))) ⊕ ((Nat → Int)) := if m_isChain (σ 124) x25 p s (i2 : Int) = true then .inl (.inl (((i2 : Int), (k_up σ 133 x25)))) else .inr (x25)
def b_findsChain_25 (σ : Nat → Nat → Int) (p : Int) (s : Int) (i2 : Nat) (x2 : (Nat → Int)) (i10 : Nat) (x10 : (Nat → Int)) (i25 : Nat) (x25 : (Nat → Int)) : (Nat → Int) := (k_u1 x25 ((i25 : Int)).toNat (z_and (z_shr ((i10 : Int)) (2 * (((i2 : Int)) - ((i25 : Int))))) (3)))
def b_findsChain_10 (σ : Nat → Nat → Int) (p : Int) (s : Int) (i2 : Nat) (x2 : (Nat → Int)) (i10 : Nat) (x10 : (Nat → Int)) : ((Int × (Nat → Nat → Int)) ⊕ ((Nat → Int))) ⊕ ((Nat → Int)) := (r_findsChain_25 σ p s i2 x2 i10 x10) (k_it (b_findsChain_25 σ p s i2 x2 i10 x10) (i2 + 1) 0 (x10))
def b_findsChain_2 (σ : Nat → Nat → Int) (p : Int) (s : Int) (i2 : Nat) (x2 : (Nat → Int)) : (Int × (Nat → Nat → Int)) ⊕ ((Nat → Int)) := k_els (r_findsChain_10 σ p s i2 x2) (k_for (b_findsChain_10 σ p s i2 x2) ((z_one ((2 * ((i2 : Int))) + 2)).toNat) 0 (x2))
def m_findsChain (σ : Nat → Nat → Int) (p : Int) (s : Int) : Int × (Nat → Nat → Int) := k_els (r_findsChain_2 σ p s) (k_for (b_findsChain_2 σ p s) (4) 0 ((σ 133)))
set_option maxRecDepth 100000 in
set_option maxHeartbeats 4000000 in
theorem c8_findsChain (hsh : k_Main sh) (hMA : k_MA σ) {p s : Int} (h_p : 0 ≤ p ∧ p < 12) (h_s : 0 ≤ s ∧ s < 7) : k_C E mX8_findsChain 4 [.ref 123, .int (iI (p)), .int (iI (s))] sh σ 0 0 ((k_pP sh R_findsChain) (m_findsChain σ p s)) := by
  refine k_C_of (ls0 := [(0, .ref 123), (1, .int (iI (p))), (2, .int (iI (s)))]) rfl pnX8 (fun v hv => k_cat1 rfl hv) (Nat.le_of_ble_eq_true rfl) rfl ?_
  obtain ⟨⟨t0, t0b⟩, ⟨t1, t1b⟩, ⟨t2, t2b⟩, ⟨t3, t3b⟩, -⟩ := id hMA.2.1
  obtain ⟨⟨f21_0, g21_0⟩, ⟨f21_1, g21_1⟩, ⟨f21_2, g21_2⟩, ⟨f21_3, g21_3⟩, ⟨f21_4, g21_4⟩, ⟨f21_5, g21_5⟩, ⟨f21_6, g21_6⟩, ⟨f21_7, g21_7⟩, ⟨f21_8, g21_8⟩, ⟨f21_9, g21_9⟩, ⟨f21_10, g21_10⟩, ⟨f21_11, g21_11⟩, ⟨f21_12, g21_12⟩, ⟨f21_13, g21_13⟩⟩ := id hMA.1
  unfold m_findsChain
  refine k_iconst (v := 0) dX8_findsChain_0 rfl ?_
  refine k_istore_n (ls' := [(0, .ref 123), (1, .int (iI (p))), (2, .int (iI (s))), (3, .int (iI (0)))]) dX8_findsChain_1 rfl (by decide) rfl rfl ?_
  refine k_eqσ (σ' := (k_up σ 133 (σ 133))) ((show k_up σ 133 (σ 133) = (k_up σ 133 (σ 133)) from rfl).symm.trans (k_up_self _ _)) ?_
  refine k_loopR (α := (Nat → Int)) (P := fun (i2 : Nat) (x2 : (Nat → Int)) Q => k_V E mX8_findsChain _ 2 [(0, .ref 123), (1, .int (iI (p))), (2, .int (iI (s))), (3, .int (iI ((i2 : Int))))] [] sh (k_up σ 133 x2) _ _ Q) (J := fun (i2 : Nat) (x2 : (Nat → Int)) => (k_rg 0 3 x2)) (4) (b_findsChain_2 σ p s) ((σ 133)) (F := fun t => (k_pP sh R_findsChain) (k_els (r_findsChain_2 σ p s) t)) (show (k_rg 0 3 (σ 133)) from (hMA).2.2.2.2.2.2.1) ?_ ?_
  · intro x2 hJ2
    have hJ2 : (k_rg 0 3 x2) := hJ2
    have hW2_133 := hJ2
    show k_V E mX8_findsChain _ 2 [(0, .ref 123), (1, .int (iI (p))), (2, .int (iI (s))), (3, .int (iI (((4 : Nat) : Int))))] [] sh (k_up σ 133 x2) _ _ ((k_pP sh R_findsChain) ((r_findsChain_2 σ p s) x2))
    unfold r_findsChain_2
    refine k_iload_n dX8_findsChain_2 3 rfl rfl ?_
    refine k_iconst (v := 4) dX8_findsChain_3 rfl ?_
    refine k_icmp_ge (tgt := 79) dX8_findsChain_4 rfl ⟨by omega, by omega⟩ ⟨by decide, by decide⟩ (fun h2 => ?_) (fun h2 => absurd h2 (by omega))
    refine k_iconst (v := (-1)) dX8_findsChain_79 rfl ?_
    exact k_retiP dX8_findsChain_80 rfl rfl rfl (show (-1 ≤ (-1 : Int) ∧ (-1 : Int) ≤ 3) ∧ k_MA (k_up σ 133 x2) from ⟨by omega, ⟨(hMA).1, (hMA).2.1, (hMA).2.2.1, (hMA).2.2.2.1, (hMA).2.2.2.2.1, (hMA).2.2.2.2.2.1, hW2_133, (hMA).2.2.2.2.2.2.2.1, (hMA).2.2.2.2.2.2.2.2.1, (hMA).2.2.2.2.2.2.2.2.2.1, (hMA).2.2.2.2.2.2.2.2.2.2.1, (hMA).2.2.2.2.2.2.2.2.2.2.2.1, (hMA).2.2.2.2.2.2.2.2.2.2.2.2⟩⟩)
  · intro n2 i2 x2 hi2 hJ2 ih2
    have hJ2 : (k_rg 0 3 x2) := hJ2
    have hW2_133 := hJ2
    show k_V E mX8_findsChain _ 2 [(0, .ref 123), (1, .int (iI (p))), (2, .int (iI (s))), (3, .int (iI ((i2 : Int))))] [] sh (k_up σ 133 x2) _ _ ((fun t => (k_pP sh R_findsChain) (k_els (r_findsChain_2 σ p s) (k_cn2 (k_for (b_findsChain_2 σ p s) n2 (i2 + 1)) t))) ((b_findsChain_2 σ p s) i2 x2))
    unfold b_findsChain_2
    refine k_iload_n dX8_findsChain_2 3 rfl rfl ?_
    refine k_iconst (v := 4) dX8_findsChain_3 rfl ?_
    refine k_icmp_ge (tgt := 79) dX8_findsChain_4 rfl ⟨by omega, by omega⟩ ⟨by decide, by decide⟩ (fun h3 => absurd h3 (by omega)) (fun h3 => ?_)
    refine k_iconst (v := 0) dX8_findsChain_7 rfl ?_
    refine k_istore (ls' := [(0, .ref 123), (1, .int (iI (p))), (2, .int (iI (s))), (3, .int (iI ((i2 : Int)))), (4, .int (iI (0)))]) dX8_findsChain_8 (by decide) rfl rfl ?_
    refine k_loopR (α := (Nat → Int)) (P := fun (i10 : Nat) (x10 : (Nat → Int)) Q => k_V E mX8_findsChain _ 10 [(0, .ref 123), (1, .int (iI (p))), (2, .int (iI (s))), (3, .int (iI ((i2 : Int)))), (4, .int (iI ((i10 : Int))))] [] sh (k_up σ 133 x10) _ _ Q) (J := fun (i10 : Nat) (x10 : (Nat → Int)) => (k_rg 0 3 x10)) ((z_one ((2 * ((i2 : Int))) + 2)).toNat) (b_findsChain_10 σ p s i2 x2) (x2) (F := fun t => (fun t => (k_pP sh R_findsChain) (k_els (r_findsChain_2 σ p s) (k_cn2 (k_for (b_findsChain_2 σ p s) n2 (i2 + 1)) t))) (k_els (r_findsChain_10 σ p s i2 x2) t)) (show (k_rg 0 3 x2) from hW2_133) ?_ ?_
    · intro x10 hJ10
      have hJ10 : (k_rg 0 3 x10) := hJ10
      have hW10_133 := hJ10
      show k_V E mX8_findsChain _ 10 [(0, .ref 123), (1, .int (iI (p))), (2, .int (iI (s))), (3, .int (iI ((i2 : Int)))), (4, .int (iI ((((z_one ((2 * ((i2 : Int))) + 2)).toNat : Nat) : Int))))] [] sh (k_up σ 133 x10) _ _ ((fun t => (k_pP sh R_findsChain) (k_els (r_findsChain_2 σ p s) (k_cn2 (k_for (b_findsChain_2 σ p s) n2 (i2 + 1)) t))) ((r_findsChain_10 σ p s i2 x2) x10))
      unfold r_findsChain_10
      refine k_iload dX8_findsChain_10 4 rfl ?_
      refine k_iconst (v := 1) dX8_findsChain_12 rfl ?_
      refine k_iconst (v := 2) dX8_findsChain_13 rfl ?_
      refine k_iload_n dX8_findsChain_14 3 rfl rfl ?_
      refine k_imul dX8_findsChain_15 ?_
      refine k_iconst (v := 2) dX8_findsChain_16 rfl ?_
      refine k_iadd dX8_findsChain_17 ?_
      refine k_ishl (v := (iI (z_one ((2 * ((i2 : Int))) + 2)))) dX8_findsChain_18 (z_oneI (by omega) (by omega)) ?_
      have q5 := z_one_pos ((2 * ((i2 : Int))) + 2)
      have q6 : z_one ((2 * ((i2 : Int))) + 2) < 2147483648 := z_one_lt 31 (show ((2 * ((i2 : Int))) + 2) < 31 by omega) (by omega)
      refine k_icmp_ge (tgt := 73) dX8_findsChain_19 rfl ⟨by omega, by omega⟩ ⟨by omega, by omega⟩ (fun h7 => ?_) (fun h7 => absurd h7 (by omega))
      refine k_iinc (ls' := [(0, .ref 123), (1, .int (iI (p))), (2, .int (iI (s))), (3, .int (iI ((i2 : Int) + 1))), (4, .int (iI ((((z_one ((2 * ((i2 : Int))) + 2)).toNat : Nat) : Int))))]) dX8_findsChain_73 3 rfl (by decide) rfl rfl ?_
      refine k_goto (tgt := 2) dX8_findsChain_76 rfl ?_
      refine k_dropr (ls' := [(0, .ref 123), (1, .int (iI (p))), (2, .int (iI (s))), (3, .int (iI ((i2 : Int) + 1)))]) (ex := [(4, .int (iI ((((z_one ((2 * ((i2 : Int))) + 2)).toNat : Nat) : Int))))]) rfl ?_
      exact ih2 (x10) (show (k_rg 0 3 x10) from hW10_133)
    · intro n10 i10 x10 hi10 hJ10 ih10
      have hJ10 : (k_rg 0 3 x10) := hJ10
      have hW10_133 := hJ10
      show k_V E mX8_findsChain _ 10 [(0, .ref 123), (1, .int (iI (p))), (2, .int (iI (s))), (3, .int (iI ((i2 : Int)))), (4, .int (iI ((i10 : Int))))] [] sh (k_up σ 133 x10) _ _ ((fun t => (fun t => (k_pP sh R_findsChain) (k_els (r_findsChain_2 σ p s) (k_cn2 (k_for (b_findsChain_2 σ p s) n2 (i2 + 1)) t))) (k_els (r_findsChain_10 σ p s i2 x2) (k_cn2 (k_for (b_findsChain_10 σ p s i2 x2) n10 (i10 + 1)) t))) ((b_findsChain_10 σ p s i2 x2) i10 x10))
      unfold b_findsChain_10
      refine k_iload dX8_findsChain_10 4 rfl ?_
      refine k_iconst (v := 1) dX8_findsChain_12 rfl ?_
      refine k_iconst (v := 2) dX8_findsChain_13 rfl ?_
      refine k_iload_n dX8_findsChain_14 3 rfl rfl ?_
      refine k_imul dX8_findsChain_15 ?_
      refine k_iconst (v := 2) dX8_findsChain_16 rfl ?_
      refine k_iadd dX8_findsChain_17 ?_
      refine k_ishl (v := (iI (z_one ((2 * ((i2 : Int))) + 2)))) dX8_findsChain_18 (z_oneI (by omega) (by omega)) ?_
      have q8 := z_one_pos ((2 * ((i2 : Int))) + 2)
      have q9 : z_one ((2 * ((i2 : Int))) + 2) < 2147483648 := z_one_lt 31 (show ((2 * ((i2 : Int))) + 2) < 31 by omega) (by omega)
      refine k_icmp_ge (tgt := 73) dX8_findsChain_19 rfl ⟨by omega, by omega⟩ ⟨by omega, by omega⟩ (fun h10 => absurd h10 (by omega)) (fun h10 => ?_)
      refine k_iconst (v := 0) dX8_findsChain_22 rfl ?_
      refine k_istore (ls' := [(0, .ref 123), (1, .int (iI (p))), (2, .int (iI (s))), (3, .int (iI ((i2 : Int)))), (4, .int (iI ((i10 : Int)))), (5, .int (iI (0)))]) dX8_findsChain_23 (by decide) rfl rfl ?_
      refine k_loop (α := (Nat → Int)) (P := fun (i25 : Nat) (x25 : (Nat → Int)) Q => k_V E mX8_findsChain _ 25 [(0, .ref 123), (1, .int (iI (p))), (2, .int (iI (s))), (3, .int (iI ((i2 : Int)))), (4, .int (iI ((i10 : Int)))), (5, .int (iI ((i25 : Int))))] [] sh (k_up σ 133 x25) _ _ Q) (J := fun (i25 : Nat) (x25 : (Nat → Int)) => (k_rg 0 3 x25)) (i2 + 1) (b_findsChain_25 σ p s i2 x2 i10 x10) (x10) (F := fun t => (fun t => (fun t => (k_pP sh R_findsChain) (k_els (r_findsChain_2 σ p s) (k_cn2 (k_for (b_findsChain_2 σ p s) n2 (i2 + 1)) t))) (k_els (r_findsChain_10 σ p s i2 x2) (k_cn2 (k_for (b_findsChain_10 σ p s i2 x2) n10 (i10 + 1)) t))) ((r_findsChain_25 σ p s i2 x2 i10 x10) t)) (show (k_rg 0 3 x10) from hW10_133) ?_ ?_
      · intro x25 hJ25
        have hJ25 : (k_rg 0 3 x25) := hJ25
        have hW25_133 := hJ25
        show k_V E mX8_findsChain _ 25 [(0, .ref 123), (1, .int (iI (p))), (2, .int (iI (s))), (3, .int (iI ((i2 : Int)))), (4, .int (iI ((i10 : Int)))), (5, .int (iI (((i2 + 1 : Nat) : Int))))] [] sh (k_up σ 133 x25) _ _ ((fun t => (fun t => (k_pP sh R_findsChain) (k_els (r_findsChain_2 σ p s) (k_cn2 (k_for (b_findsChain_2 σ p s) n2 (i2 + 1)) t))) (k_els (r_findsChain_10 σ p s i2 x2) (k_cn2 (k_for (b_findsChain_10 σ p s i2 x2) n10 (i10 + 1)) t))) ((r_findsChain_25 σ p s i2 x2 i10 x10) x25))
        unfold r_findsChain_25
        refine k_iload dX8_findsChain_25 5 rfl ?_
        refine k_iload_n dX8_findsChain_27 3 rfl rfl ?_
        refine k_icmp_gt (tgt := 55) dX8_findsChain_28 rfl ⟨by omega, by omega⟩ ⟨by omega, by omega⟩ (fun h12 => ?_) (fun h12 => absurd h12 (by omega))
        refine k_aload_n dX8_findsChain_55 0 rfl rfl (by decide) ?_
        refine k_iload_n dX8_findsChain_56 1 rfl rfl ?_
        refine k_iload_n dX8_findsChain_57 2 rfl rfl ?_
        refine k_iload_n dX8_findsChain_58 3 rfl rfl ?_
        refine k_callVrP (st := []) (as := [.int (iI (p)), .int (iI (s)), .int (iI ((i2 : Int)))]) dX8_findsChain_59 oX8_isChain w_2128 w_2130 w_67 rfl (by omega) rfl (Nat.le_of_ble_eq_true rfl) (by decide) (s_123 hsh) rfl (c8_isChain (σ := (k_up σ 133 x25)) hsh (hMA).2.1 (by omega) (by omega) (by omega) hW25_133) (fun z13 => ?_)
        refine k_eqst (st' := [.int (iI (zb (m_isChain (σ 124) x25 p s (i2 : Int) = true)))]) rfl ?_
        refine k_if_eq (tgt := 67) dX8_findsChain_62 rfl (zb_kr _) (fun h14 => ?_) (fun h14 => ?_)
        · have h14 := zb_0.mp h14
          refine k_iff (F := (fun t => (fun t => (k_pP sh R_findsChain) (k_els (r_findsChain_2 σ p s) (k_cn2 (k_for (b_findsChain_2 σ p s) n2 (i2 + 1)) t))) (k_els (r_findsChain_10 σ p s i2 x2) (k_cn2 (k_for (b_findsChain_10 σ p s i2 x2) n10 (i10 + 1)) t)))) h14 ?_
          refine k_iinc (ls' := [(0, .ref 123), (1, .int (iI (p))), (2, .int (iI (s))), (3, .int (iI ((i2 : Int)))), (4, .int (iI ((i10 : Int) + 1))), (5, .int (iI (((i2 + 1 : Nat) : Int))))]) dX8_findsChain_67 4 rfl (by decide) rfl rfl ?_
          refine k_goto (tgt := 10) dX8_findsChain_70 rfl ?_
          refine k_dropr (ls' := [(0, .ref 123), (1, .int (iI (p))), (2, .int (iI (s))), (3, .int (iI ((i2 : Int)))), (4, .int (iI ((i10 : Int) + 1)))]) (ex := [(5, .int (iI (((i2 + 1 : Nat) : Int))))]) rfl ?_
          exact ih10 (x25) (show (k_rg 0 3 x25) from hW25_133)
        · have h14 := zb_n0.mp h14
          refine k_ift (F := (fun t => (fun t => (k_pP sh R_findsChain) (k_els (r_findsChain_2 σ p s) (k_cn2 (k_for (b_findsChain_2 σ p s) n2 (i2 + 1)) t))) (k_els (r_findsChain_10 σ p s i2 x2) (k_cn2 (k_for (b_findsChain_10 σ p s i2 x2) n10 (i10 + 1)) t)))) h14 ?_
          refine k_iload_n dX8_findsChain_65 3 rfl rfl ?_
          exact k_retiP dX8_findsChain_66 rfl rfl rfl (show (-1 ≤ (i2 : Int) ∧ (i2 : Int) ≤ 3) ∧ k_MA (k_up σ 133 x25) from ⟨by omega, ⟨(hMA).1, (hMA).2.1, (hMA).2.2.1, (hMA).2.2.2.1, (hMA).2.2.2.2.1, (hMA).2.2.2.2.2.1, hW25_133, (hMA).2.2.2.2.2.2.2.1, (hMA).2.2.2.2.2.2.2.2.1, (hMA).2.2.2.2.2.2.2.2.2.1, (hMA).2.2.2.2.2.2.2.2.2.2.1, (hMA).2.2.2.2.2.2.2.2.2.2.2.1, (hMA).2.2.2.2.2.2.2.2.2.2.2.2⟩⟩)
      · intro n25 i25 x25 hi25 hJ25 ih25
        have hJ25 : (k_rg 0 3 x25) := hJ25
        have hW25_133 := hJ25
        show k_V E mX8_findsChain _ 25 [(0, .ref 123), (1, .int (iI (p))), (2, .int (iI (s))), (3, .int (iI ((i2 : Int)))), (4, .int (iI ((i10 : Int)))), (5, .int (iI ((i25 : Int))))] [] sh (k_up σ 133 x25) _ _ ((fun t => (fun t => (fun t => (k_pP sh R_findsChain) (k_els (r_findsChain_2 σ p s) (k_cn2 (k_for (b_findsChain_2 σ p s) n2 (i2 + 1)) t))) (k_els (r_findsChain_10 σ p s i2 x2) (k_cn2 (k_for (b_findsChain_10 σ p s i2 x2) n10 (i10 + 1)) t))) ((r_findsChain_25 σ p s i2 x2 i10 x10) (k_it (b_findsChain_25 σ p s i2 x2 i10 x10) n25 (i25 + 1) t))) ((b_findsChain_25 σ p s i2 x2 i10 x10) i25 x25))
        unfold b_findsChain_25
        refine k_iload dX8_findsChain_25 5 rfl ?_
        refine k_iload_n dX8_findsChain_27 3 rfl rfl ?_
        refine k_icmp_gt (tgt := 55) dX8_findsChain_28 rfl ⟨by omega, by omega⟩ ⟨by omega, by omega⟩ (fun h15 => absurd h15 (by omega)) (fun h15 => ?_)
        refine k_aload_n dX8_findsChain_31 0 rfl rfl (by decide) ?_
        refine k_get (kf := 20) (v := .ref 133) dX8_findsChain_32 kcX8 w_1767 (by decide) (by decide) (s_123 hsh) rfl rfl ?_
        refine k_iload dX8_findsChain_35 5 rfl ?_
        refine k_iload dX8_findsChain_37 4 rfl ?_
        refine k_iconst (v := 2) dX8_findsChain_39 rfl ?_
        refine k_iload_n dX8_findsChain_40 3 rfl rfl ?_
        refine k_iload dX8_findsChain_41 5 rfl ?_
        refine k_isub dX8_findsChain_43 ?_
        refine k_imul dX8_findsChain_44 ?_
        refine k_ishr (v := (iI (z_shr ((i10 : Int)) (2 * (((i2 : Int)) - ((i25 : Int))))))) dX8_findsChain_45 (zz_shrI (by omega) (by omega) (by omega) (by omega)) ?_
        have q16 := z_shr_nn ((i10 : Int)) (2 * (((i2 : Int)) - ((i25 : Int))))
        have q17 := z_shr_le ((i10 : Int)) (2 * (((i2 : Int)) - ((i25 : Int)))) (by omega)
        refine k_iconst (v := 3) dX8_findsChain_46 rfl ?_
        refine k_iand (v := (iI (z_and (z_shr ((i10 : Int)) (2 * (((i2 : Int)) - ((i25 : Int))))) (3)))) dX8_findsChain_47 (z_andI (z_shr_nn _ _) (by omega)) ?_
        have q18 := z_and_nn (z_shr ((i10 : Int)) (2 * (((i2 : Int)) - ((i25 : Int))))) (3)
        have q19 := z_and_le (z_shr ((i10 : Int)) (2 * (((i2 : Int)) - ((i25 : Int))))) (3) (z_shr_nn _ _)
        have q20 := z_and_le2 (z_shr ((i10 : Int)) (2 * (((i2 : Int)) - ((i25 : Int))))) (3) (by decide)
        refine k_iastW dX8_findsChain_48 (by decide) (s_133 hsh) (by omega) (by omega) (by decide) ?_
        refine k_eqσ (σ' := (k_up σ 133 (k_u1 x25 ((i25 : Int)).toNat (z_and (z_shr ((i10 : Int)) (2 * (((i2 : Int)) - ((i25 : Int))))) (3))))) (show k_up (k_up σ 133 x25) 133 (k_u1 x25 ((i25 : Int)).toNat (z_and (z_shr ((i10 : Int)) (2 * (((i2 : Int)) - ((i25 : Int))))) (3))) = _ from k_up_up).symm ?_
        refine k_iinc (ls' := [(0, .ref 123), (1, .int (iI (p))), (2, .int (iI (s))), (3, .int (iI ((i2 : Int)))), (4, .int (iI ((i10 : Int)))), (5, .int (iI ((i25 : Int) + 1)))]) dX8_findsChain_49 5 rfl (by decide) rfl rfl ?_
        refine k_goto (tgt := 25) dX8_findsChain_52 rfl ?_
        exact ih25 ((k_u1 x25 ((i25 : Int)).toNat (z_and (z_shr ((i10 : Int)) (2 * (((i2 : Int)) - ((i25 : Int))))) (3)))) (show (k_rg 0 3 (k_u1 x25 ((i25 : Int)).toNat (z_and (z_shr ((i10 : Int)) (2 * (((i2 : Int)) - ((i25 : Int))))) (3)))) from (show k_rg 0 3 (k_u1 x25 ((i25 : Int)).toNat (z_and (z_shr ((i10 : Int)) (2 * (((i2 : Int)) - ((i25 : Int))))) (3))) from (k_rg_u hW25_133 (by omega))))
abbrev R_asksMoves (t : Int × (Nat → Nat → Int)) : Prop := (-1 ≤ t.1 ∧ t.1 ≤ 1000) ∧ k_MA t.2
def m_asksMoves (σ : Nat → Nat → Int) (p : Int) (s : Int) : Int × (Nat → Nat → Int) := if 0 ≤ p ∧ p < (σ 124) 2 then if 0 ≤ s ∧ s < (σ 124) 0 then if (m_blockOfSubject (σ 124) p s) = (-1) then if ((m_findsChain σ p s).1) = (-1) then (0, (k_up (m_findsChain σ p s).2 123 (k_u1 ((m_findsChain σ p s).2 123) 7 (3)))) else ((m_findsChain σ p s).1, (k_up (m_findsChain σ p s).2 123 (k_u1 ((m_findsChain σ p s).2 123) 7 (0)))) else (0, (k_up σ 123 (k_u1 (σ 123) 7 (2)))) else (0, (k_up σ 123 (k_u1 (σ 123) 7 (1)))) else (0, (k_up σ 123 (k_u1 (σ 123) 7 (1))))
set_option maxRecDepth 100000 in
set_option maxHeartbeats 4000000 in
theorem c8_asksMoves (hsh : k_Main sh) (hMA : k_MA σ) {p s : Int} (h_p : -2147483648 ≤ p ∧ p < 2147483648) (h_s : -2147483648 ≤ s ∧ s < 2147483648) : k_C E mX8_asksMoves 5 [.ref 123, .int (iI (p)), .int (iI (s))] sh σ 0 0 ((k_pP sh R_asksMoves) (m_asksMoves σ p s)) := by
  refine k_C_of (ls0 := [(0, .ref 123), (1, .int (iI (p))), (2, .int (iI (s)))]) rfl pnX8 (fun v hv => k_cat1 rfl hv) (Nat.le_of_ble_eq_true rfl) rfl ?_
  obtain ⟨⟨t0, t0b⟩, ⟨t1, t1b⟩, ⟨t2, t2b⟩, ⟨t3, t3b⟩, -⟩ := id hMA.2.1
  obtain ⟨⟨f17_0, g17_0⟩, ⟨f17_1, g17_1⟩, ⟨f17_2, g17_2⟩, ⟨f17_3, g17_3⟩, ⟨f17_4, g17_4⟩, ⟨f17_5, g17_5⟩, ⟨f17_6, g17_6⟩, ⟨f17_7, g17_7⟩, ⟨f17_8, g17_8⟩, ⟨f17_9, g17_9⟩, ⟨f17_10, g17_10⟩, ⟨f17_11, g17_11⟩, ⟨f17_12, g17_12⟩, ⟨f17_13, g17_13⟩⟩ := id hMA.1
  unfold m_asksMoves
  refine k_aload_n dX8_asksMoves_0 0 rfl rfl (by decide) ?_
  refine k_iload_n dX8_asksMoves_1 1 rfl rfl ?_
  refine k_callVr (st := []) (as := [.int (iI (p))]) dX8_asksMoves_2 oX8_isPupil w_1992 w_1994 w_49 rfl (by omega) rfl (Nat.le_of_ble_eq_true rfl) (by decide) (s_123 hsh) rfl (c8_isPupil (σ := σ) hsh (hMA).2.1 ⟨by omega, by omega⟩) ?_
  refine k_if_eq (tgt := 16) dX8_asksMoves_5 rfl (zb_kr _) (fun h2 => ?_) (fun h2 => ?_)
  · have h2 := zb_0.mp h2
    refine k_iff (F := (k_pP sh R_asksMoves)) h2 ?_
    refine k_aload_n dX8_asksMoves_16 0 rfl rfl (by decide) ?_
    refine k_iconst (v := 1) dX8_asksMoves_17 rfl ?_
    refine k_callVr (st := []) (as := [.int (iI (1))]) dX8_asksMoves_18 oX8_fails w_1850 w_1852 w_31 rfl (by omega) rfl (Nat.le_of_ble_eq_true rfl) (by decide) (s_123 hsh) rfl (c8_fails hsh) ?_
    refine k_eqσ (σ' := (k_up σ 123 (k_u1 (σ 123) 7 (1)))) ((show k_up σ 123 (k_u1 (σ 123) 7 (1)) = (k_up σ 123 (k_u1 (σ 123) 7 (1))) from rfl)).symm ?_
    exact k_retiP dX8_asksMoves_21 rfl rfl rfl (show (-1 ≤ (0 : Int) ∧ (0 : Int) ≤ 1000) ∧ k_MA (k_up σ 123 (k_u1 (σ 123) 7 (1))) from ⟨by omega, ⟨(show k_F0 (k_u1 (σ 123) 7 (1)) from (k_F0_u (hMA).1 (by omega))), (hMA).2.1, (hMA).2.2.1, (hMA).2.2.2.1, (hMA).2.2.2.2.1, (hMA).2.2.2.2.2.1, (hMA).2.2.2.2.2.2.1, (hMA).2.2.2.2.2.2.2.1, (hMA).2.2.2.2.2.2.2.2.1, (hMA).2.2.2.2.2.2.2.2.2.1, (hMA).2.2.2.2.2.2.2.2.2.2.1, (hMA).2.2.2.2.2.2.2.2.2.2.2.1, (hMA).2.2.2.2.2.2.2.2.2.2.2.2⟩⟩)
  · have h2 := zb_n0.mp h2
    refine k_ift (F := (k_pP sh R_asksMoves)) h2 ?_
    refine k_aload_n dX8_asksMoves_8 0 rfl rfl (by decide) ?_
    refine k_iload_n dX8_asksMoves_9 2 rfl rfl ?_
    refine k_callVr (st := []) (as := [.int (iI (s))]) dX8_asksMoves_10 oX8_isSubject w_1900 w_1902 w_38 rfl (by omega) rfl (Nat.le_of_ble_eq_true rfl) (by decide) (s_123 hsh) rfl (c8_isSubject (σ := σ) hsh (hMA).2.1 ⟨by omega, by omega⟩) ?_
    refine k_if_ne (tgt := 22) dX8_asksMoves_13 rfl (zb_kr _) (fun h5 => ?_) (fun h5 => ?_)
    · have h5 := zb_n0.mp h5
      refine k_ift (F := (k_pP sh R_asksMoves)) h5 ?_
      refine k_aload_n dX8_asksMoves_22 0 rfl rfl (by decide) ?_
      refine k_iload_n dX8_asksMoves_23 1 rfl rfl ?_
      refine k_iload_n dX8_asksMoves_24 2 rfl rfl ?_
      refine k_callVrP (st := []) (as := [.int (iI (p)), .int (iI (s))]) dX8_asksMoves_25 oX8_blockOfSubject w_2032 w_2034 w_53 rfl (by omega) rfl (Nat.le_of_ble_eq_true rfl) (by decide) (s_123 hsh) rfl (c8_blockOfSubject hsh (hMA).2.1 (by omega) (by omega)) (fun z6 => ?_)
      have z6 : -1 ≤ m_blockOfSubject (σ 124) p s ∧ m_blockOfSubject (σ 124) p s ≤ 3 := z6
      refine k_iconst (v := (-1)) dX8_asksMoves_28 rfl ?_
      refine k_icmp_eq (tgt := 38) dX8_asksMoves_29 rfl ⟨by omega, by omega⟩ ⟨by decide, by decide⟩ (fun h7 => ?_) (fun h7 => ?_)
      · refine k_ift (F := (k_pP sh R_asksMoves)) h7 ?_
        refine k_aload_n dX8_asksMoves_38 0 rfl rfl (by decide) ?_
        refine k_iload_n dX8_asksMoves_39 1 rfl rfl ?_
        refine k_iload_n dX8_asksMoves_40 2 rfl rfl ?_
        refine k_callVrP (st := []) (as := [.int (iI (p)), .int (iI (s))]) dX8_asksMoves_41 oX8_findsChain w_2124 w_2126 w_66 rfl (by omega) rfl (Nat.le_of_ble_eq_true rfl) (by decide) (s_123 hsh) rfl (c8_findsChain hsh (show k_MA σ from ⟨(hMA).1, (hMA).2.1, (hMA).2.2.1, (hMA).2.2.2.1, (hMA).2.2.2.2.1, (hMA).2.2.2.2.2.1, (hMA).2.2.2.2.2.2.1, (hMA).2.2.2.2.2.2.2.1, (hMA).2.2.2.2.2.2.2.2.1, (hMA).2.2.2.2.2.2.2.2.2.1, (hMA).2.2.2.2.2.2.2.2.2.2.1, (hMA).2.2.2.2.2.2.2.2.2.2.2.1, (hMA).2.2.2.2.2.2.2.2.2.2.2.2⟩) (by omega) (by omega)) (fun z8 => ?_)
        have z8 : (-1 ≤ (m_findsChain σ p s).1 ∧ (m_findsChain σ p s).1 ≤ 3) ∧ k_MA (m_findsChain σ p s).2 := z8
        have z9 := z8.1
        obtain ⟨⟨y10_0, y10_0b⟩, ⟨y10_1, y10_1b⟩, ⟨y10_2, y10_2b⟩, ⟨y10_3, y10_3b⟩, -⟩ := id ((z8.2)).2.1
        obtain ⟨⟨f11_0, g11_0⟩, ⟨f11_1, g11_1⟩, ⟨f11_2, g11_2⟩, ⟨f11_3, g11_3⟩, ⟨f11_4, g11_4⟩, ⟨f11_5, g11_5⟩, ⟨f11_6, g11_6⟩, ⟨f11_7, g11_7⟩, ⟨f11_8, g11_8⟩, ⟨f11_9, g11_9⟩, ⟨f11_10, g11_10⟩, ⟨f11_11, g11_11⟩, ⟨f11_12, g11_12⟩, ⟨f11_13, g11_13⟩⟩ := id ((z8.2)).1
        refine k_istore_n (ls' := [(0, .ref 123), (1, .int (iI (p))), (2, .int (iI (s))), (3, .int (iI ((m_findsChain σ p s).1)))]) dX8_asksMoves_44 rfl (by decide) rfl rfl ?_
        refine k_iload_n dX8_asksMoves_45 3 rfl rfl ?_
        refine k_iconst (v := (-1)) dX8_asksMoves_46 rfl ?_
        refine k_icmp_ne (tgt := 58) dX8_asksMoves_47 rfl ⟨by omega, by omega⟩ ⟨by decide, by decide⟩ (fun h12 => ?_) (fun h12 => ?_)
        · refine k_iff (F := (k_pP sh R_asksMoves)) h12 ?_
          refine k_aload_n dX8_asksMoves_58 0 rfl rfl (by decide) ?_
          refine k_iload_n dX8_asksMoves_59 3 rfl rfl ?_
          refine k_callVr (st := []) (as := [.int (iI ((m_findsChain σ p s).1))]) dX8_asksMoves_60 oX8_tells w_1854 w_1856 w_32 rfl (by omega) rfl (Nat.le_of_ble_eq_true rfl) (by decide) (s_123 hsh) rfl (c8_tells hsh) ?_
          refine k_eqσ (σ' := (k_up (m_findsChain σ p s).2 123 (k_u1 ((m_findsChain σ p s).2 123) 7 (0)))) ((show k_up (m_findsChain σ p s).2 123 (k_u1 ((m_findsChain σ p s).2 123) 7 (0)) = (k_up (m_findsChain σ p s).2 123 (k_u1 ((m_findsChain σ p s).2 123) 7 (0))) from rfl)).symm ?_
          exact k_retiP dX8_asksMoves_63 rfl rfl rfl (show (-1 ≤ (m_findsChain σ p s).1 ∧ (m_findsChain σ p s).1 ≤ 1000) ∧ k_MA (k_up (m_findsChain σ p s).2 123 (k_u1 ((m_findsChain σ p s).2 123) 7 (0))) from ⟨by omega, ⟨(show k_F0 (k_u1 ((m_findsChain σ p s).2 123) 7 (0)) from (k_F0_u ((z8.2)).1 (by omega))), ((z8.2)).2.1, ((z8.2)).2.2.1, ((z8.2)).2.2.2.1, ((z8.2)).2.2.2.2.1, ((z8.2)).2.2.2.2.2.1, ((z8.2)).2.2.2.2.2.2.1, ((z8.2)).2.2.2.2.2.2.2.1, ((z8.2)).2.2.2.2.2.2.2.2.1, ((z8.2)).2.2.2.2.2.2.2.2.2.1, ((z8.2)).2.2.2.2.2.2.2.2.2.2.1, ((z8.2)).2.2.2.2.2.2.2.2.2.2.2.1, ((z8.2)).2.2.2.2.2.2.2.2.2.2.2.2⟩⟩)
        · refine k_ift (F := (k_pP sh R_asksMoves)) h12 ?_
          refine k_aload_n dX8_asksMoves_50 0 rfl rfl (by decide) ?_
          refine k_iconst (v := 3) dX8_asksMoves_51 rfl ?_
          refine k_callVr (st := []) (as := [.int (iI (3))]) dX8_asksMoves_52 oX8_fails w_1850 w_1852 w_31 rfl (by omega) rfl (Nat.le_of_ble_eq_true rfl) (by decide) (s_123 hsh) rfl (c8_fails hsh) ?_
          refine k_eqσ (σ' := (k_up (m_findsChain σ p s).2 123 (k_u1 ((m_findsChain σ p s).2 123) 7 (3)))) ((show k_up (m_findsChain σ p s).2 123 (k_u1 ((m_findsChain σ p s).2 123) 7 (3)) = (k_up (m_findsChain σ p s).2 123 (k_u1 ((m_findsChain σ p s).2 123) 7 (3))) from rfl)).symm ?_
          refine k_goto (tgt := 63) dX8_asksMoves_55 rfl ?_
          exact k_retiP dX8_asksMoves_63 rfl rfl rfl (show (-1 ≤ (0 : Int) ∧ (0 : Int) ≤ 1000) ∧ k_MA (k_up (m_findsChain σ p s).2 123 (k_u1 ((m_findsChain σ p s).2 123) 7 (3))) from ⟨by omega, ⟨(show k_F0 (k_u1 ((m_findsChain σ p s).2 123) 7 (3)) from (k_F0_u ((z8.2)).1 (by omega))), ((z8.2)).2.1, ((z8.2)).2.2.1, ((z8.2)).2.2.2.1, ((z8.2)).2.2.2.2.1, ((z8.2)).2.2.2.2.2.1, ((z8.2)).2.2.2.2.2.2.1, ((z8.2)).2.2.2.2.2.2.2.1, ((z8.2)).2.2.2.2.2.2.2.2.1, ((z8.2)).2.2.2.2.2.2.2.2.2.1, ((z8.2)).2.2.2.2.2.2.2.2.2.2.1, ((z8.2)).2.2.2.2.2.2.2.2.2.2.2.1, ((z8.2)).2.2.2.2.2.2.2.2.2.2.2.2⟩⟩)
      · refine k_iff (F := (k_pP sh R_asksMoves)) h7 ?_
        refine k_aload_n dX8_asksMoves_32 0 rfl rfl (by decide) ?_
        refine k_iconst (v := 2) dX8_asksMoves_33 rfl ?_
        refine k_callVr (st := []) (as := [.int (iI (2))]) dX8_asksMoves_34 oX8_fails w_1850 w_1852 w_31 rfl (by omega) rfl (Nat.le_of_ble_eq_true rfl) (by decide) (s_123 hsh) rfl (c8_fails hsh) ?_
        refine k_eqσ (σ' := (k_up σ 123 (k_u1 (σ 123) 7 (2)))) ((show k_up σ 123 (k_u1 (σ 123) 7 (2)) = (k_up σ 123 (k_u1 (σ 123) 7 (2))) from rfl)).symm ?_
        exact k_retiP dX8_asksMoves_37 rfl rfl rfl (show (-1 ≤ (0 : Int) ∧ (0 : Int) ≤ 1000) ∧ k_MA (k_up σ 123 (k_u1 (σ 123) 7 (2))) from ⟨by omega, ⟨(show k_F0 (k_u1 (σ 123) 7 (2)) from (k_F0_u (hMA).1 (by omega))), (hMA).2.1, (hMA).2.2.1, (hMA).2.2.2.1, (hMA).2.2.2.2.1, (hMA).2.2.2.2.2.1, (hMA).2.2.2.2.2.2.1, (hMA).2.2.2.2.2.2.2.1, (hMA).2.2.2.2.2.2.2.2.1, (hMA).2.2.2.2.2.2.2.2.2.1, (hMA).2.2.2.2.2.2.2.2.2.2.1, (hMA).2.2.2.2.2.2.2.2.2.2.2.1, (hMA).2.2.2.2.2.2.2.2.2.2.2.2⟩⟩)
    · have h5 := zb_0.mp h5
      refine k_iff (F := (k_pP sh R_asksMoves)) h5 ?_
      refine k_aload_n dX8_asksMoves_16 0 rfl rfl (by decide) ?_
      refine k_iconst (v := 1) dX8_asksMoves_17 rfl ?_
      refine k_callVr (st := []) (as := [.int (iI (1))]) dX8_asksMoves_18 oX8_fails w_1850 w_1852 w_31 rfl (by omega) rfl (Nat.le_of_ble_eq_true rfl) (by decide) (s_123 hsh) rfl (c8_fails hsh) ?_
      refine k_eqσ (σ' := (k_up σ 123 (k_u1 (σ 123) 7 (1)))) ((show k_up σ 123 (k_u1 (σ 123) 7 (1)) = (k_up σ 123 (k_u1 (σ 123) 7 (1))) from rfl)).symm ?_
      exact k_retiP dX8_asksMoves_21 rfl rfl rfl (show (-1 ≤ (0 : Int) ∧ (0 : Int) ≤ 1000) ∧ k_MA (k_up σ 123 (k_u1 (σ 123) 7 (1))) from ⟨by omega, ⟨(show k_F0 (k_u1 (σ 123) 7 (1)) from (k_F0_u (hMA).1 (by omega))), (hMA).2.1, (hMA).2.2.1, (hMA).2.2.2.1, (hMA).2.2.2.2.1, (hMA).2.2.2.2.2.1, (hMA).2.2.2.2.2.2.1, (hMA).2.2.2.2.2.2.2.1, (hMA).2.2.2.2.2.2.2.2.1, (hMA).2.2.2.2.2.2.2.2.2.1, (hMA).2.2.2.2.2.2.2.2.2.2.1, (hMA).2.2.2.2.2.2.2.2.2.2.2.1, (hMA).2.2.2.2.2.2.2.2.2.2.2.2⟩⟩)
abbrev R_movesFor (t : Int × (Nat → Nat → Int)) : Prop := (-1 ≤ t.1 ∧ t.1 ≤ 1000) ∧ k_MA t.2
def m_movesFor (σ : Nat → Nat → Int) (p : Int) (s : Int) : Int × (Nat → Nat → Int) := ((m_asksMoves σ p s).1, (m_asksMoves σ p s).2)
set_option maxRecDepth 100000 in
set_option maxHeartbeats 4000000 in
theorem c8_movesFor (hsh : k_Main sh) (hMA : k_MA σ) {p s : Int} (h_p : -2147483648 ≤ p ∧ p < 2147483648) (h_s : -2147483648 ≤ s ∧ s < 2147483648) : k_C E mX8_movesFor 6 [.ref 123, .int (iI (p)), .int (iI (s))] sh σ 0 0 ((k_pP sh R_movesFor) (m_movesFor σ p s)) := by
  refine k_C_of (ls0 := [(0, .ref 123), (1, .int (iI (p))), (2, .int (iI (s)))]) rfl pnX8 (fun v hv => k_cat1 rfl hv) (Nat.le_of_ble_eq_true rfl) rfl ?_
  obtain ⟨⟨t0, t0b⟩, ⟨t1, t1b⟩, ⟨t2, t2b⟩, ⟨t3, t3b⟩, -⟩ := id hMA.2.1
  obtain ⟨⟨f5_0, g5_0⟩, ⟨f5_1, g5_1⟩, ⟨f5_2, g5_2⟩, ⟨f5_3, g5_3⟩, ⟨f5_4, g5_4⟩, ⟨f5_5, g5_5⟩, ⟨f5_6, g5_6⟩, ⟨f5_7, g5_7⟩, ⟨f5_8, g5_8⟩, ⟨f5_9, g5_9⟩, ⟨f5_10, g5_10⟩, ⟨f5_11, g5_11⟩, ⟨f5_12, g5_12⟩, ⟨f5_13, g5_13⟩⟩ := id hMA.1
  unfold m_movesFor
  refine k_aload_n dX8_movesFor_0 0 rfl rfl (by decide) ?_
  refine k_iload_n dX8_movesFor_1 1 rfl rfl ?_
  refine k_iload_n dX8_movesFor_2 2 rfl rfl ?_
  refine k_callVrP (st := []) (as := [.int (iI (p)), .int (iI (s))]) dX8_movesFor_3 oX8_asksMoves w_2120 w_2122 w_65 rfl (by omega) rfl (Nat.le_of_ble_eq_true rfl) (by decide) (s_123 hsh) rfl (c8_asksMoves hsh (show k_MA σ from ⟨(hMA).1, (hMA).2.1, (hMA).2.2.1, (hMA).2.2.2.1, (hMA).2.2.2.2.1, (hMA).2.2.2.2.2.1, (hMA).2.2.2.2.2.2.1, (hMA).2.2.2.2.2.2.2.1, (hMA).2.2.2.2.2.2.2.2.1, (hMA).2.2.2.2.2.2.2.2.2.1, (hMA).2.2.2.2.2.2.2.2.2.2.1, (hMA).2.2.2.2.2.2.2.2.2.2.2.1, (hMA).2.2.2.2.2.2.2.2.2.2.2.2⟩) (by omega) (by omega)) (fun z1 => ?_)
  have z1 : (-1 ≤ (m_asksMoves σ p s).1 ∧ (m_asksMoves σ p s).1 ≤ 1000) ∧ k_MA (m_asksMoves σ p s).2 := z1
  have z2 := z1.1
  obtain ⟨⟨y3_0, y3_0b⟩, ⟨y3_1, y3_1b⟩, ⟨y3_2, y3_2b⟩, ⟨y3_3, y3_3b⟩, -⟩ := id ((z1.2)).2.1
  obtain ⟨⟨f4_0, g4_0⟩, ⟨f4_1, g4_1⟩, ⟨f4_2, g4_2⟩, ⟨f4_3, g4_3⟩, ⟨f4_4, g4_4⟩, ⟨f4_5, g4_5⟩, ⟨f4_6, g4_6⟩, ⟨f4_7, g4_7⟩, ⟨f4_8, g4_8⟩, ⟨f4_9, g4_9⟩, ⟨f4_10, g4_10⟩, ⟨f4_11, g4_11⟩, ⟨f4_12, g4_12⟩, ⟨f4_13, g4_13⟩⟩ := id ((z1.2)).1
  exact k_retiP dX8_movesFor_6 rfl rfl rfl (show (-1 ≤ (m_asksMoves σ p s).1 ∧ (m_asksMoves σ p s).1 ≤ 1000) ∧ k_MA (m_asksMoves σ p s).2 from ⟨by omega, ⟨((z1.2)).1, ((z1.2)).2.1, ((z1.2)).2.2.1, ((z1.2)).2.2.2.1, ((z1.2)).2.2.2.2.1, ((z1.2)).2.2.2.2.2.1, ((z1.2)).2.2.2.2.2.2.1, ((z1.2)).2.2.2.2.2.2.2.1, ((z1.2)).2.2.2.2.2.2.2.2.1, ((z1.2)).2.2.2.2.2.2.2.2.2.1, ((z1.2)).2.2.2.2.2.2.2.2.2.2.1, ((z1.2)).2.2.2.2.2.2.2.2.2.2.2.1, ((z1.2)).2.2.2.2.2.2.2.2.2.2.2.2⟩⟩)
abbrev R_movesByTrial (t : Int × (Nat → Nat → Int)) : Prop := (-1 ≤ t.1 ∧ t.1 ≤ 1000) ∧ k_MA t.2
def m_movesByTrial (σ : Nat → Nat → Int) (p : Int) (s : Int) : Int × (Nat → Nat → Int) := ((m_asksMoves σ p s).1, (m_asksMoves σ p s).2)
set_option maxRecDepth 100000 in
set_option maxHeartbeats 4000000 in
theorem c8_movesByTrial (hsh : k_Main sh) (hMA : k_MA σ) {p s : Int} (h_p : -2147483648 ≤ p ∧ p < 2147483648) (h_s : -2147483648 ≤ s ∧ s < 2147483648) : k_C E mX8_movesByTrial 6 [.ref 123, .int (iI (p)), .int (iI (s))] sh σ 0 0 ((k_pP sh R_movesByTrial) (m_movesByTrial σ p s)) := by
  refine k_C_of (ls0 := [(0, .ref 123), (1, .int (iI (p))), (2, .int (iI (s)))]) rfl pnX8 (fun v hv => k_cat1 rfl hv) (Nat.le_of_ble_eq_true rfl) rfl ?_
  obtain ⟨⟨t0, t0b⟩, ⟨t1, t1b⟩, ⟨t2, t2b⟩, ⟨t3, t3b⟩, -⟩ := id hMA.2.1
  obtain ⟨⟨f5_0, g5_0⟩, ⟨f5_1, g5_1⟩, ⟨f5_2, g5_2⟩, ⟨f5_3, g5_3⟩, ⟨f5_4, g5_4⟩, ⟨f5_5, g5_5⟩, ⟨f5_6, g5_6⟩, ⟨f5_7, g5_7⟩, ⟨f5_8, g5_8⟩, ⟨f5_9, g5_9⟩, ⟨f5_10, g5_10⟩, ⟨f5_11, g5_11⟩, ⟨f5_12, g5_12⟩, ⟨f5_13, g5_13⟩⟩ := id hMA.1
  unfold m_movesByTrial
  refine k_aload_n dX8_movesByTrial_0 0 rfl rfl (by decide) ?_
  refine k_iload_n dX8_movesByTrial_1 1 rfl rfl ?_
  refine k_iload_n dX8_movesByTrial_2 2 rfl rfl ?_
  refine k_callVrP (st := []) (as := [.int (iI (p)), .int (iI (s))]) dX8_movesByTrial_3 oX8_asksMoves w_2120 w_2122 w_65 rfl (by omega) rfl (Nat.le_of_ble_eq_true rfl) (by decide) (s_123 hsh) rfl (c8_asksMoves hsh (show k_MA σ from ⟨(hMA).1, (hMA).2.1, (hMA).2.2.1, (hMA).2.2.2.1, (hMA).2.2.2.2.1, (hMA).2.2.2.2.2.1, (hMA).2.2.2.2.2.2.1, (hMA).2.2.2.2.2.2.2.1, (hMA).2.2.2.2.2.2.2.2.1, (hMA).2.2.2.2.2.2.2.2.2.1, (hMA).2.2.2.2.2.2.2.2.2.2.1, (hMA).2.2.2.2.2.2.2.2.2.2.2.1, (hMA).2.2.2.2.2.2.2.2.2.2.2.2⟩) (by omega) (by omega)) (fun z1 => ?_)
  have z1 : (-1 ≤ (m_asksMoves σ p s).1 ∧ (m_asksMoves σ p s).1 ≤ 1000) ∧ k_MA (m_asksMoves σ p s).2 := z1
  have z2 := z1.1
  obtain ⟨⟨y3_0, y3_0b⟩, ⟨y3_1, y3_1b⟩, ⟨y3_2, y3_2b⟩, ⟨y3_3, y3_3b⟩, -⟩ := id ((z1.2)).2.1
  obtain ⟨⟨f4_0, g4_0⟩, ⟨f4_1, g4_1⟩, ⟨f4_2, g4_2⟩, ⟨f4_3, g4_3⟩, ⟨f4_4, g4_4⟩, ⟨f4_5, g4_5⟩, ⟨f4_6, g4_6⟩, ⟨f4_7, g4_7⟩, ⟨f4_8, g4_8⟩, ⟨f4_9, g4_9⟩, ⟨f4_10, g4_10⟩, ⟨f4_11, g4_11⟩, ⟨f4_12, g4_12⟩, ⟨f4_13, g4_13⟩⟩ := id ((z1.2)).1
  exact k_retiP dX8_movesByTrial_6 rfl rfl rfl (show (-1 ≤ (m_asksMoves σ p s).1 ∧ (m_asksMoves σ p s).1 ≤ 1000) ∧ k_MA (m_asksMoves σ p s).2 from ⟨by omega, ⟨((z1.2)).1, ((z1.2)).2.1, ((z1.2)).2.2.1, ((z1.2)).2.2.2.1, ((z1.2)).2.2.2.2.1, ((z1.2)).2.2.2.2.2.1, ((z1.2)).2.2.2.2.2.2.1, ((z1.2)).2.2.2.2.2.2.2.1, ((z1.2)).2.2.2.2.2.2.2.2.1, ((z1.2)).2.2.2.2.2.2.2.2.2.1, ((z1.2)).2.2.2.2.2.2.2.2.2.2.1, ((z1.2)).2.2.2.2.2.2.2.2.2.2.2.1, ((z1.2)).2.2.2.2.2.2.2.2.2.2.2.2⟩⟩)
abbrev R_joinNow (t : Int × (Nat → Nat → Int)) : Prop := (-1 ≤ t.1 ∧ t.1 ≤ 1000) ∧ k_MA t.2
def r_joinNow_71 (σ : Nat → Nat → Int) (p : Int) (s : Int) (x71 : (Nat → Int)) : Int × (Nat → Nat → Int) := ((m_findsChain σ p s).1, (k_up (m_findsChain σ p s).2 124 (k_u1 (k_u1 x71 ((105 + (4 * p)) + (((m_findsChain σ p s).2 133) 0)).toNat (s)) 3 ((m_findsChain σ p s).1))))
def b_joinNow_71 (σ : Nat → Nat → Int) (p : Int) (s : Int) (i71 : Nat) (x71 : (Nat → Int)) : (Nat → Int) := (k_u1 (k_u1 (k_u1 (k_u1 x71 ((105 + (4 * (m_mover x71 s (((m_findsChain σ p s).2 133) ((m_findsChain σ p s).1 - 1 - (i71 : Int)).toNat) (((m_findsChain σ p s).2 133) (((m_findsChain σ p s).1 - 1 - (i71 : Int)) + 1).toNat)))) + (((m_findsChain σ p s).2 133) ((m_findsChain σ p s).1 - 1 - (i71 : Int)).toNat)).toNat (-1)) ((105 + (4 * (m_mover x71 s (((m_findsChain σ p s).2 133) ((m_findsChain σ p s).1 - 1 - (i71 : Int)).toNat) (((m_findsChain σ p s).2 133) (((m_findsChain σ p s).1 - 1 - (i71 : Int)) + 1).toNat)))) + (((m_findsChain σ p s).2 133) (((m_findsChain σ p s).1 - 1 - (i71 : Int)) + 1).toNat)).toNat (s)) (4 + ((m_findsChain σ p s).1 - 1 - (i71 : Int))).toNat (m_mover x71 s (((m_findsChain σ p s).2 133) ((m_findsChain σ p s).1 - 1 - (i71 : Int)).toNat) (((m_findsChain σ p s).2 133) (((m_findsChain σ p s).1 - 1 - (i71 : Int)) + 1).toNat))) (7 + ((m_findsChain σ p s).1 - 1 - (i71 : Int))).toNat (((m_findsChain σ p s).2 133) (((m_findsChain σ p s).1 - 1 - (i71 : Int)) + 1).toNat))
def m_joinNow (σ : Nat → Nat → Int) (p : Int) (s : Int) : Int × (Nat → Nat → Int) := if 0 ≤ p ∧ p < (σ 124) 2 then if 0 ≤ s ∧ s < (σ 124) 0 then if (m_blockOfSubject (σ 124) p s) = (-1) then if ((m_findsChain σ p s).1) = (-1) then (0, (k_up (m_findsChain σ p s).2 123 (k_u1 (k_u1 ((m_findsChain σ p s).2 123) 9 (m_whyRefused ((m_findsChain σ p s).2 124) p s)) 8 (4)))) else (r_joinNow_71 σ p s) (k_it (b_joinNow_71 σ p s) (((m_findsChain σ p s).1).toNat) 0 (((m_findsChain σ p s).2 124))) else (0, (k_up σ 123 (k_u1 (σ 123) 8 (3)))) else (0, (k_up σ 123 (k_u1 (σ 123) 8 (1)))) else (0, (k_up σ 123 (k_u1 (σ 123) 8 (1))))
set_option maxRecDepth 100000 in
set_option maxHeartbeats 4000000 in
theorem c8_joinNow (hsh : k_Main sh) (hMA : k_MA σ) {p s : Int} (h_p : -2147483648 ≤ p ∧ p < 2147483648) (h_s : -2147483648 ≤ s ∧ s < 2147483648) : k_C E mX8_joinNow 5 [.ref 123, .int (iI (p)), .int (iI (s))] sh σ 0 0 ((k_pP sh R_joinNow) (m_joinNow σ p s)) := by
  refine k_C_of (ls0 := [(0, .ref 123), (1, .int (iI (p))), (2, .int (iI (s)))]) rfl pnX8 (fun v hv => k_cat1 rfl hv) (Nat.le_of_ble_eq_true rfl) rfl ?_
  obtain ⟨⟨t0, t0b⟩, ⟨t1, t1b⟩, ⟨t2, t2b⟩, ⟨t3, t3b⟩, -⟩ := id hMA.2.1
  obtain ⟨⟨f27_0, g27_0⟩, ⟨f27_1, g27_1⟩, ⟨f27_2, g27_2⟩, ⟨f27_3, g27_3⟩, ⟨f27_4, g27_4⟩, ⟨f27_5, g27_5⟩, ⟨f27_6, g27_6⟩, ⟨f27_7, g27_7⟩, ⟨f27_8, g27_8⟩, ⟨f27_9, g27_9⟩, ⟨f27_10, g27_10⟩, ⟨f27_11, g27_11⟩, ⟨f27_12, g27_12⟩, ⟨f27_13, g27_13⟩⟩ := id hMA.1
  unfold m_joinNow
  refine k_aload_n dX8_joinNow_0 0 rfl rfl (by decide) ?_
  refine k_iload_n dX8_joinNow_1 1 rfl rfl ?_
  refine k_callVr (st := []) (as := [.int (iI (p))]) dX8_joinNow_2 oX8_isPupil w_1992 w_1994 w_49 rfl (by omega) rfl (Nat.le_of_ble_eq_true rfl) (by decide) (s_123 hsh) rfl (c8_isPupil (σ := σ) hsh (hMA).2.1 ⟨by omega, by omega⟩) ?_
  refine k_if_eq (tgt := 16) dX8_joinNow_5 rfl (zb_kr _) (fun h2 => ?_) (fun h2 => ?_)
  · have h2 := zb_0.mp h2
    refine k_iff (F := (k_pP sh R_joinNow)) h2 ?_
    refine k_aload_n dX8_joinNow_16 0 rfl rfl (by decide) ?_
    refine k_iconst (v := 1) dX8_joinNow_17 rfl ?_
    refine k_callVr (st := []) (as := [.int (iI (1))]) dX8_joinNow_18 oX8_bad w_1884 w_1886 w_35 rfl (by omega) rfl (Nat.le_of_ble_eq_true rfl) (by decide) (s_123 hsh) rfl (c8_bad hsh) ?_
    refine k_eqσ (σ' := (k_up σ 123 (k_u1 (σ 123) 8 (1)))) ((show k_up σ 123 (k_u1 (σ 123) 8 (1)) = (k_up σ 123 (k_u1 (σ 123) 8 (1))) from rfl)).symm ?_
    exact k_retiP dX8_joinNow_21 rfl rfl rfl (show (-1 ≤ (0 : Int) ∧ (0 : Int) ≤ 1000) ∧ k_MA (k_up σ 123 (k_u1 (σ 123) 8 (1))) from ⟨by omega, ⟨(show k_F0 (k_u1 (σ 123) 8 (1)) from (k_F0_u (hMA).1 (by omega))), (hMA).2.1, (hMA).2.2.1, (hMA).2.2.2.1, (hMA).2.2.2.2.1, (hMA).2.2.2.2.2.1, (hMA).2.2.2.2.2.2.1, (hMA).2.2.2.2.2.2.2.1, (hMA).2.2.2.2.2.2.2.2.1, (hMA).2.2.2.2.2.2.2.2.2.1, (hMA).2.2.2.2.2.2.2.2.2.2.1, (hMA).2.2.2.2.2.2.2.2.2.2.2.1, (hMA).2.2.2.2.2.2.2.2.2.2.2.2⟩⟩)
  · have h2 := zb_n0.mp h2
    refine k_ift (F := (k_pP sh R_joinNow)) h2 ?_
    refine k_aload_n dX8_joinNow_8 0 rfl rfl (by decide) ?_
    refine k_iload_n dX8_joinNow_9 2 rfl rfl ?_
    refine k_callVr (st := []) (as := [.int (iI (s))]) dX8_joinNow_10 oX8_isSubject w_1900 w_1902 w_38 rfl (by omega) rfl (Nat.le_of_ble_eq_true rfl) (by decide) (s_123 hsh) rfl (c8_isSubject (σ := σ) hsh (hMA).2.1 ⟨by omega, by omega⟩) ?_
    refine k_if_ne (tgt := 22) dX8_joinNow_13 rfl (zb_kr _) (fun h5 => ?_) (fun h5 => ?_)
    · have h5 := zb_n0.mp h5
      refine k_ift (F := (k_pP sh R_joinNow)) h5 ?_
      refine k_aload_n dX8_joinNow_22 0 rfl rfl (by decide) ?_
      refine k_iload_n dX8_joinNow_23 1 rfl rfl ?_
      refine k_iload_n dX8_joinNow_24 2 rfl rfl ?_
      refine k_callVrP (st := []) (as := [.int (iI (p)), .int (iI (s))]) dX8_joinNow_25 oX8_blockOfSubject w_2032 w_2034 w_53 rfl (by omega) rfl (Nat.le_of_ble_eq_true rfl) (by decide) (s_123 hsh) rfl (c8_blockOfSubject hsh (hMA).2.1 (by omega) (by omega)) (fun z6 => ?_)
      have z6 : -1 ≤ m_blockOfSubject (σ 124) p s ∧ m_blockOfSubject (σ 124) p s ≤ 3 := z6
      refine k_iconst (v := (-1)) dX8_joinNow_28 rfl ?_
      refine k_icmp_eq (tgt := 38) dX8_joinNow_29 rfl ⟨by omega, by omega⟩ ⟨by decide, by decide⟩ (fun h7 => ?_) (fun h7 => ?_)
      · refine k_ift (F := (k_pP sh R_joinNow)) h7 ?_
        refine k_aload_n dX8_joinNow_38 0 rfl rfl (by decide) ?_
        refine k_iload_n dX8_joinNow_39 1 rfl rfl ?_
        refine k_iload_n dX8_joinNow_40 2 rfl rfl ?_
        refine k_callVrP (st := []) (as := [.int (iI (p)), .int (iI (s))]) dX8_joinNow_41 oX8_findsChain w_2124 w_2126 w_66 rfl (by omega) rfl (Nat.le_of_ble_eq_true rfl) (by decide) (s_123 hsh) rfl (c8_findsChain hsh (show k_MA σ from ⟨(hMA).1, (hMA).2.1, (hMA).2.2.1, (hMA).2.2.2.1, (hMA).2.2.2.2.1, (hMA).2.2.2.2.2.1, (hMA).2.2.2.2.2.2.1, (hMA).2.2.2.2.2.2.2.1, (hMA).2.2.2.2.2.2.2.2.1, (hMA).2.2.2.2.2.2.2.2.2.1, (hMA).2.2.2.2.2.2.2.2.2.2.1, (hMA).2.2.2.2.2.2.2.2.2.2.2.1, (hMA).2.2.2.2.2.2.2.2.2.2.2.2⟩) (by omega) (by omega)) (fun z8 => ?_)
        have z8 : (-1 ≤ (m_findsChain σ p s).1 ∧ (m_findsChain σ p s).1 ≤ 3) ∧ k_MA (m_findsChain σ p s).2 := z8
        have z9 := z8.1
        obtain ⟨⟨y10_0, y10_0b⟩, ⟨y10_1, y10_1b⟩, ⟨y10_2, y10_2b⟩, ⟨y10_3, y10_3b⟩, -⟩ := id ((z8.2)).2.1
        obtain ⟨⟨f11_0, g11_0⟩, ⟨f11_1, g11_1⟩, ⟨f11_2, g11_2⟩, ⟨f11_3, g11_3⟩, ⟨f11_4, g11_4⟩, ⟨f11_5, g11_5⟩, ⟨f11_6, g11_6⟩, ⟨f11_7, g11_7⟩, ⟨f11_8, g11_8⟩, ⟨f11_9, g11_9⟩, ⟨f11_10, g11_10⟩, ⟨f11_11, g11_11⟩, ⟨f11_12, g11_12⟩, ⟨f11_13, g11_13⟩⟩ := id ((z8.2)).1
        refine k_istore_n (ls' := [(0, .ref 123), (1, .int (iI (p))), (2, .int (iI (s))), (3, .int (iI ((m_findsChain σ p s).1)))]) dX8_joinNow_44 rfl (by decide) rfl rfl ?_
        refine k_iload_n dX8_joinNow_45 3 rfl rfl ?_
        refine k_iconst (v := (-1)) dX8_joinNow_46 rfl ?_
        refine k_icmp_ne (tgt := 66) dX8_joinNow_47 rfl ⟨by omega, by omega⟩ ⟨by decide, by decide⟩ (fun h12 => ?_) (fun h12 => ?_)
        · refine k_iff (F := (k_pP sh R_joinNow)) h12 ?_
          refine k_iload_n dX8_joinNow_66 3 rfl rfl ?_
          refine k_iconst (v := 1) dX8_joinNow_67 rfl ?_
          refine k_isub dX8_joinNow_68 ?_
          refine k_istore (ls' := [(0, .ref 123), (1, .int (iI (p))), (2, .int (iI (s))), (3, .int (iI ((m_findsChain σ p s).1))), (4, .int (iI (((m_findsChain σ p s).1) - 1)))]) dX8_joinNow_69 (by decide) rfl rfl ?_
          refine k_lrw (q := 4) (j := 4) (a' := (m_findsChain σ p s).1 - 1 - ((0 : Nat) : Int)) (ls' := [(0, .ref 123), (1, .int (iI (p))), (2, .int (iI (s))), (3, .int (iI ((m_findsChain σ p s).1))), (4, .int (iI ((m_findsChain σ p s).1 - 1 - ((0 : Nat) : Int))))]) rfl (by omega) rfl ?_
          refine k_eqσ (σ' := (k_up (m_findsChain σ p s).2 124 ((m_findsChain σ p s).2 124))) ((show k_up (m_findsChain σ p s).2 124 ((m_findsChain σ p s).2 124) = (k_up (m_findsChain σ p s).2 124 ((m_findsChain σ p s).2 124)) from rfl).symm.trans (k_up_self _ _)) ?_
          refine k_loop (α := (Nat → Int)) (P := fun (i71 : Nat) (x71 : (Nat → Int)) Q => k_V E mX8_joinNow _ 71 [(0, .ref 123), (1, .int (iI (p))), (2, .int (iI (s))), (3, .int (iI ((m_findsChain σ p s).1))), (4, .int (iI ((m_findsChain σ p s).1 - 1 - (i71 : Int))))] [] sh (k_up (m_findsChain σ p s).2 124 x71) _ _ Q) (J := fun (i71 : Nat) (x71 : (Nat → Int)) => (k_Mo x71)) (((m_findsChain σ p s).1).toNat) (b_joinNow_71 σ p s) (((m_findsChain σ p s).2 124)) (F := fun t => (k_pP sh R_joinNow) ((r_joinNow_71 σ p s) t)) (show (k_Mo ((m_findsChain σ p s).2 124)) from ((z8.2)).2.1) ?_ ?_
          · intro x71 hJ71
            have hJ71 : (k_Mo x71) := hJ71
            have hW71_124 := hJ71
            show k_V E mX8_joinNow _ 71 [(0, .ref 123), (1, .int (iI (p))), (2, .int (iI (s))), (3, .int (iI ((m_findsChain σ p s).1))), (4, .int (iI ((m_findsChain σ p s).1 - 1 - ((((m_findsChain σ p s).1).toNat : Nat) : Int))))] [] sh (k_up (m_findsChain σ p s).2 124 x71) _ _ ((k_pP sh R_joinNow) ((r_joinNow_71 σ p s) x71))
            unfold r_joinNow_71
            refine k_iload dX8_joinNow_71 4 rfl ?_
            refine k_if_lt (tgt := 179) dX8_joinNow_73 rfl ⟨by omega, by omega⟩ (fun h14 => ?_) (fun h14 => absurd h14 (by omega))
            refine k_aload_n dX8_joinNow_179 0 rfl rfl (by decide) ?_
            refine k_get (kf := 0) (v := .ref 124) dX8_joinNow_180 kcX8 w_1747 (by decide) (by decide) (s_123 hsh) rfl rfl ?_
            refine k_bipush (v := 105) dX8_joinNow_183 (by decide) ?_
            refine k_iconst (v := 4) dX8_joinNow_185 rfl ?_
            refine k_iload_n dX8_joinNow_186 1 rfl rfl ?_
            refine k_imul dX8_joinNow_187 ?_
            refine k_iadd dX8_joinNow_188 ?_
            refine k_aload_n dX8_joinNow_189 0 rfl rfl (by decide) ?_
            refine k_get (kf := 20) (v := .ref 133) dX8_joinNow_190 kcX8 w_1767 (by decide) (by decide) (s_123 hsh) rfl rfl ?_
            refine k_iconst (v := 0) dX8_joinNow_193 rfl ?_
            refine k_iald dX8_joinNow_194 (by decide) (s_133 hsh) (by omega) (by omega) (by decide) ?_
            refine k_eqst (st' := [.int (iI (((m_findsChain σ p s).2 133) 0)), .int (iI (105 + (4 * p))), .ref 124]) rfl ?_
            have q15 := ((z8.2)).2.2.2.2.2.2.1 0
            refine k_iadd dX8_joinNow_195 ?_
            refine k_iload_n dX8_joinNow_196 2 rfl rfl ?_
            refine k_iastW dX8_joinNow_197 (by decide) (s_124 hsh) (by omega) (by omega) (by decide) ?_
            refine k_eqσ (σ' := (k_up (m_findsChain σ p s).2 124 (k_u1 x71 ((105 + (4 * p)) + (((m_findsChain σ p s).2 133) 0)).toNat (s)))) (show k_up (k_up (m_findsChain σ p s).2 124 x71) 124 (k_u1 x71 ((105 + (4 * p)) + (((m_findsChain σ p s).2 133) 0)).toNat (s)) = _ from k_up_up).symm ?_
            refine k_aload_n dX8_joinNow_198 0 rfl rfl (by decide) ?_
            refine k_get (kf := 0) (v := .ref 124) dX8_joinNow_199 kcX8 w_1747 (by decide) (by decide) (s_123 hsh) rfl rfl ?_
            refine k_iconst (v := 3) dX8_joinNow_202 rfl ?_
            refine k_iload_n dX8_joinNow_203 3 rfl rfl ?_
            refine k_iastW dX8_joinNow_204 (by decide) (s_124 hsh) (by omega) (by omega) (by decide) ?_
            refine k_eqσ (σ' := (k_up (m_findsChain σ p s).2 124 (k_u1 (k_u1 x71 ((105 + (4 * p)) + (((m_findsChain σ p s).2 133) 0)).toNat (s)) 3 ((m_findsChain σ p s).1)))) (show k_up (k_up (m_findsChain σ p s).2 124 (k_u1 x71 ((105 + (4 * p)) + (((m_findsChain σ p s).2 133) 0)).toNat (s))) 124 (k_u1 (k_u1 x71 ((105 + (4 * p)) + (((m_findsChain σ p s).2 133) 0)).toNat (s)) 3 ((m_findsChain σ p s).1)) = _ from k_up_up).symm ?_
            refine k_iload_n dX8_joinNow_205 3 rfl rfl ?_
            exact k_retiP dX8_joinNow_206 rfl rfl rfl (show (-1 ≤ (m_findsChain σ p s).1 ∧ (m_findsChain σ p s).1 ≤ 1000) ∧ k_MA (k_up (m_findsChain σ p s).2 124 (k_u1 (k_u1 x71 ((105 + (4 * p)) + (((m_findsChain σ p s).2 133) 0)).toNat (s)) 3 ((m_findsChain σ p s).1))) from ⟨by omega, ⟨((z8.2)).1, (show k_Mo (k_u1 (k_u1 x71 ((105 + (4 * p)) + (((m_findsChain σ p s).2 133) 0)).toNat (s)) 3 ((m_findsChain σ p s).1)) from (k_Mo_u (show k_Mo (k_u1 x71 ((105 + (4 * p)) + (((m_findsChain σ p s).2 133) 0)).toNat (s)) from (k_Mo_u hW71_124 (by omega))) (by omega))), ((z8.2)).2.2.1, ((z8.2)).2.2.2.1, ((z8.2)).2.2.2.2.1, ((z8.2)).2.2.2.2.2.1, ((z8.2)).2.2.2.2.2.2.1, ((z8.2)).2.2.2.2.2.2.2.1, ((z8.2)).2.2.2.2.2.2.2.2.1, ((z8.2)).2.2.2.2.2.2.2.2.2.1, ((z8.2)).2.2.2.2.2.2.2.2.2.2.1, ((z8.2)).2.2.2.2.2.2.2.2.2.2.2.1, ((z8.2)).2.2.2.2.2.2.2.2.2.2.2.2⟩⟩)
          · intro n71 i71 x71 hi71 hJ71 ih71
            have hJ71 : (k_Mo x71) := hJ71
            have hW71_124 := hJ71
            show k_V E mX8_joinNow _ 71 [(0, .ref 123), (1, .int (iI (p))), (2, .int (iI (s))), (3, .int (iI ((m_findsChain σ p s).1))), (4, .int (iI ((m_findsChain σ p s).1 - 1 - (i71 : Int))))] [] sh (k_up (m_findsChain σ p s).2 124 x71) _ _ ((fun t => (k_pP sh R_joinNow) ((r_joinNow_71 σ p s) (k_it (b_joinNow_71 σ p s) n71 (i71 + 1) t))) ((b_joinNow_71 σ p s) i71 x71))
            unfold b_joinNow_71
            refine k_iload dX8_joinNow_71 4 rfl ?_
            refine k_if_lt (tgt := 179) dX8_joinNow_73 rfl ⟨by omega, by omega⟩ (fun h16 => absurd h16 (by omega)) (fun h16 => ?_)
            refine k_aload_n dX8_joinNow_76 0 rfl rfl (by decide) ?_
            refine k_iload_n dX8_joinNow_77 2 rfl rfl ?_
            refine k_aload_n dX8_joinNow_78 0 rfl rfl (by decide) ?_
            refine k_get (kf := 20) (v := .ref 133) dX8_joinNow_79 kcX8 w_1767 (by decide) (by decide) (s_123 hsh) rfl rfl ?_
            refine k_iload dX8_joinNow_82 4 rfl ?_
            refine k_iald dX8_joinNow_84 (by decide) (s_133 hsh) (by omega) (by omega) (by decide) ?_
            refine k_eqst (st' := [.int (iI (((m_findsChain σ p s).2 133) ((m_findsChain σ p s).1 - 1 - (i71 : Int)).toNat)), .int (iI (s)), .ref 123]) rfl ?_
            have q17 := ((z8.2)).2.2.2.2.2.2.1 ((m_findsChain σ p s).1 - 1 - (i71 : Int)).toNat
            refine k_aload_n dX8_joinNow_85 0 rfl rfl (by decide) ?_
            refine k_get (kf := 20) (v := .ref 133) dX8_joinNow_86 kcX8 w_1767 (by decide) (by decide) (s_123 hsh) rfl rfl ?_
            refine k_iload dX8_joinNow_89 4 rfl ?_
            refine k_iconst (v := 1) dX8_joinNow_91 rfl ?_
            refine k_iadd dX8_joinNow_92 ?_
            refine k_iald dX8_joinNow_93 (by decide) (s_133 hsh) (by omega) (by omega) (by decide) ?_
            refine k_eqst (st' := [.int (iI (((m_findsChain σ p s).2 133) (((m_findsChain σ p s).1 - 1 - (i71 : Int)) + 1).toNat)), .int (iI (((m_findsChain σ p s).2 133) ((m_findsChain σ p s).1 - 1 - (i71 : Int)).toNat)), .int (iI (s)), .ref 123]) rfl ?_
            have q18 := ((z8.2)).2.2.2.2.2.2.1 (((m_findsChain σ p s).1 - 1 - (i71 : Int)) + 1).toNat
            refine k_callVrP (st := []) (as := [.int (iI (s)), .int (iI (((m_findsChain σ p s).2 133) ((m_findsChain σ p s).1 - 1 - (i71 : Int)).toNat)), .int (iI (((m_findsChain σ p s).2 133) (((m_findsChain σ p s).1 - 1 - (i71 : Int)) + 1).toNat))]) dX8_joinNow_94 oX8_mover w_2136 w_2138 w_69 rfl (by omega) rfl (Nat.le_of_ble_eq_true rfl) (by decide) (s_123 hsh) rfl (c8_mover (σ := (k_up (m_findsChain σ p s).2 124 x71)) hsh hW71_124 (by omega) (by omega) (by omega)) (fun z19 => ?_)
            have z19 : -1 ≤ m_mover x71 s (((m_findsChain σ p s).2 133) ((m_findsChain σ p s).1 - 1 - (i71 : Int)).toNat) (((m_findsChain σ p s).2 133) (((m_findsChain σ p s).1 - 1 - (i71 : Int)) + 1).toNat) ∧ m_mover x71 s (((m_findsChain σ p s).2 133) ((m_findsChain σ p s).1 - 1 - (i71 : Int)).toNat) (((m_findsChain σ p s).2 133) (((m_findsChain σ p s).1 - 1 - (i71 : Int)) + 1).toNat) ≤ 11 := z19
            refine k_eqst (st' := [.int (iI (m_mover x71 s (((m_findsChain σ p s).2 133) ((m_findsChain σ p s).1 - 1 - (i71 : Int)).toNat) (((m_findsChain σ p s).2 133) (((m_findsChain σ p s).1 - 1 - (i71 : Int)) + 1).toNat)))]) rfl ?_
            refine k_istore (ls' := [(0, .ref 123), (1, .int (iI (p))), (2, .int (iI (s))), (3, .int (iI ((m_findsChain σ p s).1))), (4, .int (iI ((m_findsChain σ p s).1 - 1 - (i71 : Int)))), (5, .int (iI (m_mover x71 s (((m_findsChain σ p s).2 133) ((m_findsChain σ p s).1 - 1 - (i71 : Int)).toNat) (((m_findsChain σ p s).2 133) (((m_findsChain σ p s).1 - 1 - (i71 : Int)) + 1).toNat))))]) dX8_joinNow_97 (by decide) rfl rfl ?_
            refine k_aload_n dX8_joinNow_99 0 rfl rfl (by decide) ?_
            refine k_get (kf := 0) (v := .ref 124) dX8_joinNow_100 kcX8 w_1747 (by decide) (by decide) (s_123 hsh) rfl rfl ?_
            refine k_bipush (v := 105) dX8_joinNow_103 (by decide) ?_
            refine k_iconst (v := 4) dX8_joinNow_105 rfl ?_
            refine k_iload dX8_joinNow_106 5 rfl ?_
            refine k_imul dX8_joinNow_108 ?_
            refine k_iadd dX8_joinNow_109 ?_
            refine k_aload_n dX8_joinNow_110 0 rfl rfl (by decide) ?_
            refine k_get (kf := 20) (v := .ref 133) dX8_joinNow_111 kcX8 w_1767 (by decide) (by decide) (s_123 hsh) rfl rfl ?_
            refine k_iload dX8_joinNow_114 4 rfl ?_
            refine k_iald dX8_joinNow_116 (by decide) (s_133 hsh) (by omega) (by omega) (by decide) ?_
            refine k_eqst (st' := [.int (iI (((m_findsChain σ p s).2 133) ((m_findsChain σ p s).1 - 1 - (i71 : Int)).toNat)), .int (iI (105 + (4 * (m_mover x71 s (((m_findsChain σ p s).2 133) ((m_findsChain σ p s).1 - 1 - (i71 : Int)).toNat) (((m_findsChain σ p s).2 133) (((m_findsChain σ p s).1 - 1 - (i71 : Int)) + 1).toNat))))), .ref 124]) rfl ?_
            have q20 := ((z8.2)).2.2.2.2.2.2.1 ((m_findsChain σ p s).1 - 1 - (i71 : Int)).toNat
            refine k_iadd dX8_joinNow_117 ?_
            refine k_iconst (v := (-1)) dX8_joinNow_118 rfl ?_
            refine k_iastW dX8_joinNow_119 (by decide) (s_124 hsh) (by omega) (by omega) (by decide) ?_
            refine k_eqσ (σ' := (k_up (m_findsChain σ p s).2 124 (k_u1 x71 ((105 + (4 * (m_mover x71 s (((m_findsChain σ p s).2 133) ((m_findsChain σ p s).1 - 1 - (i71 : Int)).toNat) (((m_findsChain σ p s).2 133) (((m_findsChain σ p s).1 - 1 - (i71 : Int)) + 1).toNat)))) + (((m_findsChain σ p s).2 133) ((m_findsChain σ p s).1 - 1 - (i71 : Int)).toNat)).toNat (-1)))) (show k_up (k_up (m_findsChain σ p s).2 124 x71) 124 (k_u1 x71 ((105 + (4 * (m_mover x71 s (((m_findsChain σ p s).2 133) ((m_findsChain σ p s).1 - 1 - (i71 : Int)).toNat) (((m_findsChain σ p s).2 133) (((m_findsChain σ p s).1 - 1 - (i71 : Int)) + 1).toNat)))) + (((m_findsChain σ p s).2 133) ((m_findsChain σ p s).1 - 1 - (i71 : Int)).toNat)).toNat (-1)) = _ from k_up_up).symm ?_
            refine k_aload_n dX8_joinNow_120 0 rfl rfl (by decide) ?_
            refine k_get (kf := 0) (v := .ref 124) dX8_joinNow_121 kcX8 w_1747 (by decide) (by decide) (s_123 hsh) rfl rfl ?_
            refine k_bipush (v := 105) dX8_joinNow_124 (by decide) ?_
            refine k_iconst (v := 4) dX8_joinNow_126 rfl ?_
            refine k_iload dX8_joinNow_127 5 rfl ?_
            refine k_imul dX8_joinNow_129 ?_
            refine k_iadd dX8_joinNow_130 ?_
            refine k_aload_n dX8_joinNow_131 0 rfl rfl (by decide) ?_
            refine k_get (kf := 20) (v := .ref 133) dX8_joinNow_132 kcX8 w_1767 (by decide) (by decide) (s_123 hsh) rfl rfl ?_
            refine k_iload dX8_joinNow_135 4 rfl ?_
            refine k_iconst (v := 1) dX8_joinNow_137 rfl ?_
            refine k_iadd dX8_joinNow_138 ?_
            refine k_iald dX8_joinNow_139 (by decide) (s_133 hsh) (by omega) (by omega) (by decide) ?_
            refine k_eqst (st' := [.int (iI (((m_findsChain σ p s).2 133) (((m_findsChain σ p s).1 - 1 - (i71 : Int)) + 1).toNat)), .int (iI (105 + (4 * (m_mover x71 s (((m_findsChain σ p s).2 133) ((m_findsChain σ p s).1 - 1 - (i71 : Int)).toNat) (((m_findsChain σ p s).2 133) (((m_findsChain σ p s).1 - 1 - (i71 : Int)) + 1).toNat))))), .ref 124]) rfl ?_
            have q21 := ((z8.2)).2.2.2.2.2.2.1 (((m_findsChain σ p s).1 - 1 - (i71 : Int)) + 1).toNat
            refine k_iadd dX8_joinNow_140 ?_
            refine k_iload_n dX8_joinNow_141 2 rfl rfl ?_
            refine k_iastW dX8_joinNow_142 (by decide) (s_124 hsh) (by omega) (by omega) (by decide) ?_
            refine k_eqσ (σ' := (k_up (m_findsChain σ p s).2 124 (k_u1 (k_u1 x71 ((105 + (4 * (m_mover x71 s (((m_findsChain σ p s).2 133) ((m_findsChain σ p s).1 - 1 - (i71 : Int)).toNat) (((m_findsChain σ p s).2 133) (((m_findsChain σ p s).1 - 1 - (i71 : Int)) + 1).toNat)))) + (((m_findsChain σ p s).2 133) ((m_findsChain σ p s).1 - 1 - (i71 : Int)).toNat)).toNat (-1)) ((105 + (4 * (m_mover x71 s (((m_findsChain σ p s).2 133) ((m_findsChain σ p s).1 - 1 - (i71 : Int)).toNat) (((m_findsChain σ p s).2 133) (((m_findsChain σ p s).1 - 1 - (i71 : Int)) + 1).toNat)))) + (((m_findsChain σ p s).2 133) (((m_findsChain σ p s).1 - 1 - (i71 : Int)) + 1).toNat)).toNat (s)))) (show k_up (k_up (m_findsChain σ p s).2 124 (k_u1 x71 ((105 + (4 * (m_mover x71 s (((m_findsChain σ p s).2 133) ((m_findsChain σ p s).1 - 1 - (i71 : Int)).toNat) (((m_findsChain σ p s).2 133) (((m_findsChain σ p s).1 - 1 - (i71 : Int)) + 1).toNat)))) + (((m_findsChain σ p s).2 133) ((m_findsChain σ p s).1 - 1 - (i71 : Int)).toNat)).toNat (-1))) 124 (k_u1 (k_u1 x71 ((105 + (4 * (m_mover x71 s (((m_findsChain σ p s).2 133) ((m_findsChain σ p s).1 - 1 - (i71 : Int)).toNat) (((m_findsChain σ p s).2 133) (((m_findsChain σ p s).1 - 1 - (i71 : Int)) + 1).toNat)))) + (((m_findsChain σ p s).2 133) ((m_findsChain σ p s).1 - 1 - (i71 : Int)).toNat)).toNat (-1)) ((105 + (4 * (m_mover x71 s (((m_findsChain σ p s).2 133) ((m_findsChain σ p s).1 - 1 - (i71 : Int)).toNat) (((m_findsChain σ p s).2 133) (((m_findsChain σ p s).1 - 1 - (i71 : Int)) + 1).toNat)))) + (((m_findsChain σ p s).2 133) (((m_findsChain σ p s).1 - 1 - (i71 : Int)) + 1).toNat)).toNat (s)) = _ from k_up_up).symm ?_
            refine k_aload_n dX8_joinNow_143 0 rfl rfl (by decide) ?_
            refine k_get (kf := 0) (v := .ref 124) dX8_joinNow_144 kcX8 w_1747 (by decide) (by decide) (s_123 hsh) rfl rfl ?_
            refine k_iconst (v := 4) dX8_joinNow_147 rfl ?_
            refine k_iload dX8_joinNow_148 4 rfl ?_
            refine k_iadd dX8_joinNow_150 ?_
            refine k_iload dX8_joinNow_151 5 rfl ?_
            refine k_iastW dX8_joinNow_153 (by decide) (s_124 hsh) (by omega) (by omega) (by decide) ?_
            refine k_eqσ (σ' := (k_up (m_findsChain σ p s).2 124 (k_u1 (k_u1 (k_u1 x71 ((105 + (4 * (m_mover x71 s (((m_findsChain σ p s).2 133) ((m_findsChain σ p s).1 - 1 - (i71 : Int)).toNat) (((m_findsChain σ p s).2 133) (((m_findsChain σ p s).1 - 1 - (i71 : Int)) + 1).toNat)))) + (((m_findsChain σ p s).2 133) ((m_findsChain σ p s).1 - 1 - (i71 : Int)).toNat)).toNat (-1)) ((105 + (4 * (m_mover x71 s (((m_findsChain σ p s).2 133) ((m_findsChain σ p s).1 - 1 - (i71 : Int)).toNat) (((m_findsChain σ p s).2 133) (((m_findsChain σ p s).1 - 1 - (i71 : Int)) + 1).toNat)))) + (((m_findsChain σ p s).2 133) (((m_findsChain σ p s).1 - 1 - (i71 : Int)) + 1).toNat)).toNat (s)) (4 + ((m_findsChain σ p s).1 - 1 - (i71 : Int))).toNat (m_mover x71 s (((m_findsChain σ p s).2 133) ((m_findsChain σ p s).1 - 1 - (i71 : Int)).toNat) (((m_findsChain σ p s).2 133) (((m_findsChain σ p s).1 - 1 - (i71 : Int)) + 1).toNat))))) (show k_up (k_up (m_findsChain σ p s).2 124 (k_u1 (k_u1 x71 ((105 + (4 * (m_mover x71 s (((m_findsChain σ p s).2 133) ((m_findsChain σ p s).1 - 1 - (i71 : Int)).toNat) (((m_findsChain σ p s).2 133) (((m_findsChain σ p s).1 - 1 - (i71 : Int)) + 1).toNat)))) + (((m_findsChain σ p s).2 133) ((m_findsChain σ p s).1 - 1 - (i71 : Int)).toNat)).toNat (-1)) ((105 + (4 * (m_mover x71 s (((m_findsChain σ p s).2 133) ((m_findsChain σ p s).1 - 1 - (i71 : Int)).toNat) (((m_findsChain σ p s).2 133) (((m_findsChain σ p s).1 - 1 - (i71 : Int)) + 1).toNat)))) + (((m_findsChain σ p s).2 133) (((m_findsChain σ p s).1 - 1 - (i71 : Int)) + 1).toNat)).toNat (s))) 124 (k_u1 (k_u1 (k_u1 x71 ((105 + (4 * (m_mover x71 s (((m_findsChain σ p s).2 133) ((m_findsChain σ p s).1 - 1 - (i71 : Int)).toNat) (((m_findsChain σ p s).2 133) (((m_findsChain σ p s).1 - 1 - (i71 : Int)) + 1).toNat)))) + (((m_findsChain σ p s).2 133) ((m_findsChain σ p s).1 - 1 - (i71 : Int)).toNat)).toNat (-1)) ((105 + (4 * (m_mover x71 s (((m_findsChain σ p s).2 133) ((m_findsChain σ p s).1 - 1 - (i71 : Int)).toNat) (((m_findsChain σ p s).2 133) (((m_findsChain σ p s).1 - 1 - (i71 : Int)) + 1).toNat)))) + (((m_findsChain σ p s).2 133) (((m_findsChain σ p s).1 - 1 - (i71 : Int)) + 1).toNat)).toNat (s)) (4 + ((m_findsChain σ p s).1 - 1 - (i71 : Int))).toNat (m_mover x71 s (((m_findsChain σ p s).2 133) ((m_findsChain σ p s).1 - 1 - (i71 : Int)).toNat) (((m_findsChain σ p s).2 133) (((m_findsChain σ p s).1 - 1 - (i71 : Int)) + 1).toNat))) = _ from k_up_up).symm ?_
            refine k_aload_n dX8_joinNow_154 0 rfl rfl (by decide) ?_
            refine k_get (kf := 0) (v := .ref 124) dX8_joinNow_155 kcX8 w_1747 (by decide) (by decide) (s_123 hsh) rfl rfl ?_
            refine k_bipush (v := 7) dX8_joinNow_158 (by decide) ?_
            refine k_iload dX8_joinNow_160 4 rfl ?_
            refine k_iadd dX8_joinNow_162 ?_
            refine k_aload_n dX8_joinNow_163 0 rfl rfl (by decide) ?_
            refine k_get (kf := 20) (v := .ref 133) dX8_joinNow_164 kcX8 w_1767 (by decide) (by decide) (s_123 hsh) rfl rfl ?_
            refine k_iload dX8_joinNow_167 4 rfl ?_
            refine k_iconst (v := 1) dX8_joinNow_169 rfl ?_
            refine k_iadd dX8_joinNow_170 ?_
            refine k_iald dX8_joinNow_171 (by decide) (s_133 hsh) (by omega) (by omega) (by decide) ?_
            refine k_eqst (st' := [.int (iI (((m_findsChain σ p s).2 133) (((m_findsChain σ p s).1 - 1 - (i71 : Int)) + 1).toNat)), .int (iI (7 + ((m_findsChain σ p s).1 - 1 - (i71 : Int)))), .ref 124]) rfl ?_
            have q22 := ((z8.2)).2.2.2.2.2.2.1 (((m_findsChain σ p s).1 - 1 - (i71 : Int)) + 1).toNat
            refine k_iastW dX8_joinNow_172 (by decide) (s_124 hsh) (by omega) (by omega) (by decide) ?_
            refine k_eqσ (σ' := (k_up (m_findsChain σ p s).2 124 (k_u1 (k_u1 (k_u1 (k_u1 x71 ((105 + (4 * (m_mover x71 s (((m_findsChain σ p s).2 133) ((m_findsChain σ p s).1 - 1 - (i71 : Int)).toNat) (((m_findsChain σ p s).2 133) (((m_findsChain σ p s).1 - 1 - (i71 : Int)) + 1).toNat)))) + (((m_findsChain σ p s).2 133) ((m_findsChain σ p s).1 - 1 - (i71 : Int)).toNat)).toNat (-1)) ((105 + (4 * (m_mover x71 s (((m_findsChain σ p s).2 133) ((m_findsChain σ p s).1 - 1 - (i71 : Int)).toNat) (((m_findsChain σ p s).2 133) (((m_findsChain σ p s).1 - 1 - (i71 : Int)) + 1).toNat)))) + (((m_findsChain σ p s).2 133) (((m_findsChain σ p s).1 - 1 - (i71 : Int)) + 1).toNat)).toNat (s)) (4 + ((m_findsChain σ p s).1 - 1 - (i71 : Int))).toNat (m_mover x71 s (((m_findsChain σ p s).2 133) ((m_findsChain σ p s).1 - 1 - (i71 : Int)).toNat) (((m_findsChain σ p s).2 133) (((m_findsChain σ p s).1 - 1 - (i71 : Int)) + 1).toNat))) (7 + ((m_findsChain σ p s).1 - 1 - (i71 : Int))).toNat (((m_findsChain σ p s).2 133) (((m_findsChain σ p s).1 - 1 - (i71 : Int)) + 1).toNat)))) (show k_up (k_up (m_findsChain σ p s).2 124 (k_u1 (k_u1 (k_u1 x71 ((105 + (4 * (m_mover x71 s (((m_findsChain σ p s).2 133) ((m_findsChain σ p s).1 - 1 - (i71 : Int)).toNat) (((m_findsChain σ p s).2 133) (((m_findsChain σ p s).1 - 1 - (i71 : Int)) + 1).toNat)))) + (((m_findsChain σ p s).2 133) ((m_findsChain σ p s).1 - 1 - (i71 : Int)).toNat)).toNat (-1)) ((105 + (4 * (m_mover x71 s (((m_findsChain σ p s).2 133) ((m_findsChain σ p s).1 - 1 - (i71 : Int)).toNat) (((m_findsChain σ p s).2 133) (((m_findsChain σ p s).1 - 1 - (i71 : Int)) + 1).toNat)))) + (((m_findsChain σ p s).2 133) (((m_findsChain σ p s).1 - 1 - (i71 : Int)) + 1).toNat)).toNat (s)) (4 + ((m_findsChain σ p s).1 - 1 - (i71 : Int))).toNat (m_mover x71 s (((m_findsChain σ p s).2 133) ((m_findsChain σ p s).1 - 1 - (i71 : Int)).toNat) (((m_findsChain σ p s).2 133) (((m_findsChain σ p s).1 - 1 - (i71 : Int)) + 1).toNat)))) 124 (k_u1 (k_u1 (k_u1 (k_u1 x71 ((105 + (4 * (m_mover x71 s (((m_findsChain σ p s).2 133) ((m_findsChain σ p s).1 - 1 - (i71 : Int)).toNat) (((m_findsChain σ p s).2 133) (((m_findsChain σ p s).1 - 1 - (i71 : Int)) + 1).toNat)))) + (((m_findsChain σ p s).2 133) ((m_findsChain σ p s).1 - 1 - (i71 : Int)).toNat)).toNat (-1)) ((105 + (4 * (m_mover x71 s (((m_findsChain σ p s).2 133) ((m_findsChain σ p s).1 - 1 - (i71 : Int)).toNat) (((m_findsChain σ p s).2 133) (((m_findsChain σ p s).1 - 1 - (i71 : Int)) + 1).toNat)))) + (((m_findsChain σ p s).2 133) (((m_findsChain σ p s).1 - 1 - (i71 : Int)) + 1).toNat)).toNat (s)) (4 + ((m_findsChain σ p s).1 - 1 - (i71 : Int))).toNat (m_mover x71 s (((m_findsChain σ p s).2 133) ((m_findsChain σ p s).1 - 1 - (i71 : Int)).toNat) (((m_findsChain σ p s).2 133) (((m_findsChain σ p s).1 - 1 - (i71 : Int)) + 1).toNat))) (7 + ((m_findsChain σ p s).1 - 1 - (i71 : Int))).toNat (((m_findsChain σ p s).2 133) (((m_findsChain σ p s).1 - 1 - (i71 : Int)) + 1).toNat)) = _ from k_up_up).symm ?_
            refine k_iinc (ls' := [(0, .ref 123), (1, .int (iI (p))), (2, .int (iI (s))), (3, .int (iI ((m_findsChain σ p s).1))), (4, .int (iI ((m_findsChain σ p s).1 - 1 - (i71 : Int) + (-1)))), (5, .int (iI (m_mover x71 s (((m_findsChain σ p s).2 133) ((m_findsChain σ p s).1 - 1 - (i71 : Int)).toNat) (((m_findsChain σ p s).2 133) (((m_findsChain σ p s).1 - 1 - (i71 : Int)) + 1).toNat))))]) dX8_joinNow_173 4 rfl (by decide) rfl rfl ?_
            refine k_goto (tgt := 71) dX8_joinNow_176 rfl ?_
            refine k_dropr (ls' := [(0, .ref 123), (1, .int (iI (p))), (2, .int (iI (s))), (3, .int (iI ((m_findsChain σ p s).1))), (4, .int (iI ((m_findsChain σ p s).1 - 1 - (i71 : Int) + (-1))))]) (ex := [(5, .int (iI (m_mover x71 s (((m_findsChain σ p s).2 133) ((m_findsChain σ p s).1 - 1 - (i71 : Int)).toNat) (((m_findsChain σ p s).2 133) (((m_findsChain σ p s).1 - 1 - (i71 : Int)) + 1).toNat))))]) rfl ?_
            refine k_lrw (q := 4) (j := 4) (a' := (m_findsChain σ p s).1 - 1 - ((i71 + 1 : Nat) : Int)) (ls' := [(0, .ref 123), (1, .int (iI (p))), (2, .int (iI (s))), (3, .int (iI ((m_findsChain σ p s).1))), (4, .int (iI ((m_findsChain σ p s).1 - 1 - ((i71 + 1 : Nat) : Int))))]) rfl (by omega) rfl ?_
            exact ih71 ((k_u1 (k_u1 (k_u1 (k_u1 x71 ((105 + (4 * (m_mover x71 s (((m_findsChain σ p s).2 133) ((m_findsChain σ p s).1 - 1 - (i71 : Int)).toNat) (((m_findsChain σ p s).2 133) (((m_findsChain σ p s).1 - 1 - (i71 : Int)) + 1).toNat)))) + (((m_findsChain σ p s).2 133) ((m_findsChain σ p s).1 - 1 - (i71 : Int)).toNat)).toNat (-1)) ((105 + (4 * (m_mover x71 s (((m_findsChain σ p s).2 133) ((m_findsChain σ p s).1 - 1 - (i71 : Int)).toNat) (((m_findsChain σ p s).2 133) (((m_findsChain σ p s).1 - 1 - (i71 : Int)) + 1).toNat)))) + (((m_findsChain σ p s).2 133) (((m_findsChain σ p s).1 - 1 - (i71 : Int)) + 1).toNat)).toNat (s)) (4 + ((m_findsChain σ p s).1 - 1 - (i71 : Int))).toNat (m_mover x71 s (((m_findsChain σ p s).2 133) ((m_findsChain σ p s).1 - 1 - (i71 : Int)).toNat) (((m_findsChain σ p s).2 133) (((m_findsChain σ p s).1 - 1 - (i71 : Int)) + 1).toNat))) (7 + ((m_findsChain σ p s).1 - 1 - (i71 : Int))).toNat (((m_findsChain σ p s).2 133) (((m_findsChain σ p s).1 - 1 - (i71 : Int)) + 1).toNat))) (show (k_Mo (k_u1 (k_u1 (k_u1 (k_u1 x71 ((105 + (4 * (m_mover x71 s (((m_findsChain σ p s).2 133) ((m_findsChain σ p s).1 - 1 - (i71 : Int)).toNat) (((m_findsChain σ p s).2 133) (((m_findsChain σ p s).1 - 1 - (i71 : Int)) + 1).toNat)))) + (((m_findsChain σ p s).2 133) ((m_findsChain σ p s).1 - 1 - (i71 : Int)).toNat)).toNat (-1)) ((105 + (4 * (m_mover x71 s (((m_findsChain σ p s).2 133) ((m_findsChain σ p s).1 - 1 - (i71 : Int)).toNat) (((m_findsChain σ p s).2 133) (((m_findsChain σ p s).1 - 1 - (i71 : Int)) + 1).toNat)))) + (((m_findsChain σ p s).2 133) (((m_findsChain σ p s).1 - 1 - (i71 : Int)) + 1).toNat)).toNat (s)) (4 + ((m_findsChain σ p s).1 - 1 - (i71 : Int))).toNat (m_mover x71 s (((m_findsChain σ p s).2 133) ((m_findsChain σ p s).1 - 1 - (i71 : Int)).toNat) (((m_findsChain σ p s).2 133) (((m_findsChain σ p s).1 - 1 - (i71 : Int)) + 1).toNat))) (7 + ((m_findsChain σ p s).1 - 1 - (i71 : Int))).toNat (((m_findsChain σ p s).2 133) (((m_findsChain σ p s).1 - 1 - (i71 : Int)) + 1).toNat))) from (show k_Mo (k_u1 (k_u1 (k_u1 (k_u1 x71 ((105 + (4 * (m_mover x71 s (((m_findsChain σ p s).2 133) ((m_findsChain σ p s).1 - 1 - (i71 : Int)).toNat) (((m_findsChain σ p s).2 133) (((m_findsChain σ p s).1 - 1 - (i71 : Int)) + 1).toNat)))) + (((m_findsChain σ p s).2 133) ((m_findsChain σ p s).1 - 1 - (i71 : Int)).toNat)).toNat (-1)) ((105 + (4 * (m_mover x71 s (((m_findsChain σ p s).2 133) ((m_findsChain σ p s).1 - 1 - (i71 : Int)).toNat) (((m_findsChain σ p s).2 133) (((m_findsChain σ p s).1 - 1 - (i71 : Int)) + 1).toNat)))) + (((m_findsChain σ p s).2 133) (((m_findsChain σ p s).1 - 1 - (i71 : Int)) + 1).toNat)).toNat (s)) (4 + ((m_findsChain σ p s).1 - 1 - (i71 : Int))).toNat (m_mover x71 s (((m_findsChain σ p s).2 133) ((m_findsChain σ p s).1 - 1 - (i71 : Int)).toNat) (((m_findsChain σ p s).2 133) (((m_findsChain σ p s).1 - 1 - (i71 : Int)) + 1).toNat))) (7 + ((m_findsChain σ p s).1 - 1 - (i71 : Int))).toNat (((m_findsChain σ p s).2 133) (((m_findsChain σ p s).1 - 1 - (i71 : Int)) + 1).toNat)) from (k_Mo_u (show k_Mo (k_u1 (k_u1 (k_u1 x71 ((105 + (4 * (m_mover x71 s (((m_findsChain σ p s).2 133) ((m_findsChain σ p s).1 - 1 - (i71 : Int)).toNat) (((m_findsChain σ p s).2 133) (((m_findsChain σ p s).1 - 1 - (i71 : Int)) + 1).toNat)))) + (((m_findsChain σ p s).2 133) ((m_findsChain σ p s).1 - 1 - (i71 : Int)).toNat)).toNat (-1)) ((105 + (4 * (m_mover x71 s (((m_findsChain σ p s).2 133) ((m_findsChain σ p s).1 - 1 - (i71 : Int)).toNat) (((m_findsChain σ p s).2 133) (((m_findsChain σ p s).1 - 1 - (i71 : Int)) + 1).toNat)))) + (((m_findsChain σ p s).2 133) (((m_findsChain σ p s).1 - 1 - (i71 : Int)) + 1).toNat)).toNat (s)) (4 + ((m_findsChain σ p s).1 - 1 - (i71 : Int))).toNat (m_mover x71 s (((m_findsChain σ p s).2 133) ((m_findsChain σ p s).1 - 1 - (i71 : Int)).toNat) (((m_findsChain σ p s).2 133) (((m_findsChain σ p s).1 - 1 - (i71 : Int)) + 1).toNat))) from (k_Mo_u (show k_Mo (k_u1 (k_u1 x71 ((105 + (4 * (m_mover x71 s (((m_findsChain σ p s).2 133) ((m_findsChain σ p s).1 - 1 - (i71 : Int)).toNat) (((m_findsChain σ p s).2 133) (((m_findsChain σ p s).1 - 1 - (i71 : Int)) + 1).toNat)))) + (((m_findsChain σ p s).2 133) ((m_findsChain σ p s).1 - 1 - (i71 : Int)).toNat)).toNat (-1)) ((105 + (4 * (m_mover x71 s (((m_findsChain σ p s).2 133) ((m_findsChain σ p s).1 - 1 - (i71 : Int)).toNat) (((m_findsChain σ p s).2 133) (((m_findsChain σ p s).1 - 1 - (i71 : Int)) + 1).toNat)))) + (((m_findsChain σ p s).2 133) (((m_findsChain σ p s).1 - 1 - (i71 : Int)) + 1).toNat)).toNat (s)) from (k_Mo_u (show k_Mo (k_u1 x71 ((105 + (4 * (m_mover x71 s (((m_findsChain σ p s).2 133) ((m_findsChain σ p s).1 - 1 - (i71 : Int)).toNat) (((m_findsChain σ p s).2 133) (((m_findsChain σ p s).1 - 1 - (i71 : Int)) + 1).toNat)))) + (((m_findsChain σ p s).2 133) ((m_findsChain σ p s).1 - 1 - (i71 : Int)).toNat)).toNat (-1)) from (k_Mo_u hW71_124 (by omega))) (by omega))) (by omega))) (by omega))))
        · refine k_ift (F := (k_pP sh R_joinNow)) h12 ?_
          refine k_aload_n dX8_joinNow_50 0 rfl rfl (by decide) ?_
          refine k_aload_n dX8_joinNow_51 0 rfl rfl (by decide) ?_
          refine k_iload_n dX8_joinNow_52 1 rfl rfl ?_
          refine k_iload_n dX8_joinNow_53 2 rfl rfl ?_
          refine k_callVrP (st := [.ref 123]) (as := [.int (iI (p)), .int (iI (s))]) dX8_joinNow_54 oX8_whyRefused w_2152 w_2154 w_71 rfl (by omega) rfl (Nat.le_of_ble_eq_true rfl) (by decide) (s_123 hsh) rfl (c8_whyRefused (σ := (m_findsChain σ p s).2) hsh ((z8.2)).2.1 (by omega) (by omega)) (fun z23 => ?_)
          have z23 : 1 ≤ m_whyRefused ((m_findsChain σ p s).2 124) p s ∧ m_whyRefused ((m_findsChain σ p s).2 124) p s ≤ 3 := z23
          refine k_putfW (kf := 9) dX8_joinNow_57 kcX8 w_1756 (by decide) (by decide) (s_123 hsh) rfl rfl rfl rfl ?_
          refine k_eqσ (σ' := (k_up (m_findsChain σ p s).2 123 (k_u1 ((m_findsChain σ p s).2 123) 9 (m_whyRefused ((m_findsChain σ p s).2 124) p s)))) rfl ?_
          refine k_aload_n dX8_joinNow_60 0 rfl rfl (by decide) ?_
          refine k_iconst (v := 4) dX8_joinNow_61 rfl ?_
          refine k_callVr (st := []) (as := [.int (iI (4))]) dX8_joinNow_62 oX8_bad w_1884 w_1886 w_35 rfl (by omega) rfl (Nat.le_of_ble_eq_true rfl) (by decide) (s_123 hsh) rfl (c8_bad hsh) ?_
          refine k_eqσ (σ' := (k_up (m_findsChain σ p s).2 123 (k_u1 (k_u1 ((m_findsChain σ p s).2 123) 9 (m_whyRefused ((m_findsChain σ p s).2 124) p s)) 8 (4)))) ((show k_up (k_up (m_findsChain σ p s).2 123 (k_u1 ((m_findsChain σ p s).2 123) 9 (m_whyRefused ((m_findsChain σ p s).2 124) p s))) 123 (k_u1 (k_u1 ((m_findsChain σ p s).2 123) 9 (m_whyRefused ((m_findsChain σ p s).2 124) p s)) 8 (4)) = (k_up (m_findsChain σ p s).2 123 (k_u1 (k_u1 ((m_findsChain σ p s).2 123) 9 (m_whyRefused ((m_findsChain σ p s).2 124) p s)) 8 (4))) from k_up_up)).symm ?_
          exact k_retiP dX8_joinNow_65 rfl rfl rfl (show (-1 ≤ (0 : Int) ∧ (0 : Int) ≤ 1000) ∧ k_MA (k_up (m_findsChain σ p s).2 123 (k_u1 (k_u1 ((m_findsChain σ p s).2 123) 9 (m_whyRefused ((m_findsChain σ p s).2 124) p s)) 8 (4))) from ⟨by omega, ⟨(show k_F0 (k_u1 (k_u1 ((m_findsChain σ p s).2 123) 9 (m_whyRefused ((m_findsChain σ p s).2 124) p s)) 8 (4)) from (k_F0_u (show k_F0 (k_u1 ((m_findsChain σ p s).2 123) 9 (m_whyRefused ((m_findsChain σ p s).2 124) p s)) from (k_F0_u ((z8.2)).1 (by omega))) (by omega))), ((z8.2)).2.1, ((z8.2)).2.2.1, ((z8.2)).2.2.2.1, ((z8.2)).2.2.2.2.1, ((z8.2)).2.2.2.2.2.1, ((z8.2)).2.2.2.2.2.2.1, ((z8.2)).2.2.2.2.2.2.2.1, ((z8.2)).2.2.2.2.2.2.2.2.1, ((z8.2)).2.2.2.2.2.2.2.2.2.1, ((z8.2)).2.2.2.2.2.2.2.2.2.2.1, ((z8.2)).2.2.2.2.2.2.2.2.2.2.2.1, ((z8.2)).2.2.2.2.2.2.2.2.2.2.2.2⟩⟩)
      · refine k_iff (F := (k_pP sh R_joinNow)) h7 ?_
        refine k_aload_n dX8_joinNow_32 0 rfl rfl (by decide) ?_
        refine k_iconst (v := 3) dX8_joinNow_33 rfl ?_
        refine k_callVr (st := []) (as := [.int (iI (3))]) dX8_joinNow_34 oX8_bad w_1884 w_1886 w_35 rfl (by omega) rfl (Nat.le_of_ble_eq_true rfl) (by decide) (s_123 hsh) rfl (c8_bad hsh) ?_
        refine k_eqσ (σ' := (k_up σ 123 (k_u1 (σ 123) 8 (3)))) ((show k_up σ 123 (k_u1 (σ 123) 8 (3)) = (k_up σ 123 (k_u1 (σ 123) 8 (3))) from rfl)).symm ?_
        exact k_retiP dX8_joinNow_37 rfl rfl rfl (show (-1 ≤ (0 : Int) ∧ (0 : Int) ≤ 1000) ∧ k_MA (k_up σ 123 (k_u1 (σ 123) 8 (3))) from ⟨by omega, ⟨(show k_F0 (k_u1 (σ 123) 8 (3)) from (k_F0_u (hMA).1 (by omega))), (hMA).2.1, (hMA).2.2.1, (hMA).2.2.2.1, (hMA).2.2.2.2.1, (hMA).2.2.2.2.2.1, (hMA).2.2.2.2.2.2.1, (hMA).2.2.2.2.2.2.2.1, (hMA).2.2.2.2.2.2.2.2.1, (hMA).2.2.2.2.2.2.2.2.2.1, (hMA).2.2.2.2.2.2.2.2.2.2.1, (hMA).2.2.2.2.2.2.2.2.2.2.2.1, (hMA).2.2.2.2.2.2.2.2.2.2.2.2⟩⟩)
    · have h5 := zb_0.mp h5
      refine k_iff (F := (k_pP sh R_joinNow)) h5 ?_
      refine k_aload_n dX8_joinNow_16 0 rfl rfl (by decide) ?_
      refine k_iconst (v := 1) dX8_joinNow_17 rfl ?_
      refine k_callVr (st := []) (as := [.int (iI (1))]) dX8_joinNow_18 oX8_bad w_1884 w_1886 w_35 rfl (by omega) rfl (Nat.le_of_ble_eq_true rfl) (by decide) (s_123 hsh) rfl (c8_bad hsh) ?_
      refine k_eqσ (σ' := (k_up σ 123 (k_u1 (σ 123) 8 (1)))) ((show k_up σ 123 (k_u1 (σ 123) 8 (1)) = (k_up σ 123 (k_u1 (σ 123) 8 (1))) from rfl)).symm ?_
      exact k_retiP dX8_joinNow_21 rfl rfl rfl (show (-1 ≤ (0 : Int) ∧ (0 : Int) ≤ 1000) ∧ k_MA (k_up σ 123 (k_u1 (σ 123) 8 (1))) from ⟨by omega, ⟨(show k_F0 (k_u1 (σ 123) 8 (1)) from (k_F0_u (hMA).1 (by omega))), (hMA).2.1, (hMA).2.2.1, (hMA).2.2.2.1, (hMA).2.2.2.2.1, (hMA).2.2.2.2.2.1, (hMA).2.2.2.2.2.2.1, (hMA).2.2.2.2.2.2.2.1, (hMA).2.2.2.2.2.2.2.2.1, (hMA).2.2.2.2.2.2.2.2.2.1, (hMA).2.2.2.2.2.2.2.2.2.2.1, (hMA).2.2.2.2.2.2.2.2.2.2.2.1, (hMA).2.2.2.2.2.2.2.2.2.2.2.2⟩⟩)
abbrev R_quitNow (t : Int × (Nat → Nat → Int)) : Prop := (-1 ≤ t.1 ∧ t.1 ≤ 1000) ∧ k_MA t.2
def m_quitNow (σ : Nat → Nat → Int) (p : Int) (s : Int) : Int × (Nat → Nat → Int) := if 0 ≤ p ∧ p < (σ 124) 2 then if 0 ≤ s ∧ s < (σ 124) 0 then if (m_blockOfSubject (σ 124) p s) = (-1) then (0, (k_up σ 123 (k_u1 (σ 123) 8 (3)))) else (m_blockOfSubject (σ 124) p s, (k_up σ 124 (k_u1 (σ 124) ((105 + (4 * p)) + (m_blockOfSubject (σ 124) p s)).toNat (-1)))) else (0, (k_up σ 123 (k_u1 (σ 123) 8 (1)))) else (0, (k_up σ 123 (k_u1 (σ 123) 8 (1))))
set_option maxRecDepth 100000 in
set_option maxHeartbeats 4000000 in
theorem c8_quitNow (hsh : k_Main sh) (hMA : k_MA σ) {p s : Int} (h_p : -2147483648 ≤ p ∧ p < 2147483648) (h_s : -2147483648 ≤ s ∧ s < 2147483648) : k_C E mX8_quitNow 3 [.ref 123, .int (iI (p)), .int (iI (s))] sh σ 0 0 ((k_pP sh R_quitNow) (m_quitNow σ p s)) := by
  refine k_C_of (ls0 := [(0, .ref 123), (1, .int (iI (p))), (2, .int (iI (s)))]) rfl pnX8 (fun v hv => k_cat1 rfl hv) (Nat.le_of_ble_eq_true rfl) rfl ?_
  obtain ⟨⟨t0, t0b⟩, ⟨t1, t1b⟩, ⟨t2, t2b⟩, ⟨t3, t3b⟩, -⟩ := id hMA.2.1
  obtain ⟨⟨f10_0, g10_0⟩, ⟨f10_1, g10_1⟩, ⟨f10_2, g10_2⟩, ⟨f10_3, g10_3⟩, ⟨f10_4, g10_4⟩, ⟨f10_5, g10_5⟩, ⟨f10_6, g10_6⟩, ⟨f10_7, g10_7⟩, ⟨f10_8, g10_8⟩, ⟨f10_9, g10_9⟩, ⟨f10_10, g10_10⟩, ⟨f10_11, g10_11⟩, ⟨f10_12, g10_12⟩, ⟨f10_13, g10_13⟩⟩ := id hMA.1
  unfold m_quitNow
  refine k_aload_n dX8_quitNow_0 0 rfl rfl (by decide) ?_
  refine k_iload_n dX8_quitNow_1 1 rfl rfl ?_
  refine k_callVr (st := []) (as := [.int (iI (p))]) dX8_quitNow_2 oX8_isPupil w_1992 w_1994 w_49 rfl (by omega) rfl (Nat.le_of_ble_eq_true rfl) (by decide) (s_123 hsh) rfl (c8_isPupil (σ := σ) hsh (hMA).2.1 ⟨by omega, by omega⟩) ?_
  refine k_if_eq (tgt := 16) dX8_quitNow_5 rfl (zb_kr _) (fun h2 => ?_) (fun h2 => ?_)
  · have h2 := zb_0.mp h2
    refine k_iff (F := (k_pP sh R_quitNow)) h2 ?_
    refine k_aload_n dX8_quitNow_16 0 rfl rfl (by decide) ?_
    refine k_iconst (v := 1) dX8_quitNow_17 rfl ?_
    refine k_callVr (st := []) (as := [.int (iI (1))]) dX8_quitNow_18 oX8_bad w_1884 w_1886 w_35 rfl (by omega) rfl (Nat.le_of_ble_eq_true rfl) (by decide) (s_123 hsh) rfl (c8_bad hsh) ?_
    refine k_eqσ (σ' := (k_up σ 123 (k_u1 (σ 123) 8 (1)))) ((show k_up σ 123 (k_u1 (σ 123) 8 (1)) = (k_up σ 123 (k_u1 (σ 123) 8 (1))) from rfl)).symm ?_
    exact k_retiP dX8_quitNow_21 rfl rfl rfl (show (-1 ≤ (0 : Int) ∧ (0 : Int) ≤ 1000) ∧ k_MA (k_up σ 123 (k_u1 (σ 123) 8 (1))) from ⟨by omega, ⟨(show k_F0 (k_u1 (σ 123) 8 (1)) from (k_F0_u (hMA).1 (by omega))), (hMA).2.1, (hMA).2.2.1, (hMA).2.2.2.1, (hMA).2.2.2.2.1, (hMA).2.2.2.2.2.1, (hMA).2.2.2.2.2.2.1, (hMA).2.2.2.2.2.2.2.1, (hMA).2.2.2.2.2.2.2.2.1, (hMA).2.2.2.2.2.2.2.2.2.1, (hMA).2.2.2.2.2.2.2.2.2.2.1, (hMA).2.2.2.2.2.2.2.2.2.2.2.1, (hMA).2.2.2.2.2.2.2.2.2.2.2.2⟩⟩)
  · have h2 := zb_n0.mp h2
    refine k_ift (F := (k_pP sh R_quitNow)) h2 ?_
    refine k_aload_n dX8_quitNow_8 0 rfl rfl (by decide) ?_
    refine k_iload_n dX8_quitNow_9 2 rfl rfl ?_
    refine k_callVr (st := []) (as := [.int (iI (s))]) dX8_quitNow_10 oX8_isSubject w_1900 w_1902 w_38 rfl (by omega) rfl (Nat.le_of_ble_eq_true rfl) (by decide) (s_123 hsh) rfl (c8_isSubject (σ := σ) hsh (hMA).2.1 ⟨by omega, by omega⟩) ?_
    refine k_if_ne (tgt := 22) dX8_quitNow_13 rfl (zb_kr _) (fun h5 => ?_) (fun h5 => ?_)
    · have h5 := zb_n0.mp h5
      refine k_ift (F := (k_pP sh R_quitNow)) h5 ?_
      refine k_aload_n dX8_quitNow_22 0 rfl rfl (by decide) ?_
      refine k_iload_n dX8_quitNow_23 1 rfl rfl ?_
      refine k_iload_n dX8_quitNow_24 2 rfl rfl ?_
      refine k_callVrP (st := []) (as := [.int (iI (p)), .int (iI (s))]) dX8_quitNow_25 oX8_blockOfSubject w_2032 w_2034 w_53 rfl (by omega) rfl (Nat.le_of_ble_eq_true rfl) (by decide) (s_123 hsh) rfl (c8_blockOfSubject hsh (hMA).2.1 (by omega) (by omega)) (fun z6 => ?_)
      have z6 : -1 ≤ m_blockOfSubject (σ 124) p s ∧ m_blockOfSubject (σ 124) p s ≤ 3 := z6
      refine k_istore_n (ls' := [(0, .ref 123), (1, .int (iI (p))), (2, .int (iI (s))), (3, .int (iI (m_blockOfSubject (σ 124) p s)))]) dX8_quitNow_28 rfl (by decide) rfl rfl ?_
      refine k_iload_n dX8_quitNow_29 3 rfl rfl ?_
      refine k_iconst (v := (-1)) dX8_quitNow_30 rfl ?_
      refine k_icmp_ne (tgt := 40) dX8_quitNow_31 rfl ⟨by omega, by omega⟩ ⟨by decide, by decide⟩ (fun h7 => ?_) (fun h7 => ?_)
      · refine k_iff (F := (k_pP sh R_quitNow)) h7 ?_
        refine k_aload_n dX8_quitNow_40 0 rfl rfl (by decide) ?_
        refine k_get (kf := 0) (v := .ref 124) dX8_quitNow_41 kcX8 w_1747 (by decide) (by decide) (s_123 hsh) rfl rfl ?_
        refine k_bipush (v := 105) dX8_quitNow_44 (by decide) ?_
        refine k_iconst (v := 4) dX8_quitNow_46 rfl ?_
        refine k_iload_n dX8_quitNow_47 1 rfl rfl ?_
        refine k_imul dX8_quitNow_48 ?_
        refine k_iadd dX8_quitNow_49 ?_
        refine k_iload_n dX8_quitNow_50 3 rfl rfl ?_
        refine k_iadd dX8_quitNow_51 ?_
        refine k_iconst (v := (-1)) dX8_quitNow_52 rfl ?_
        refine k_iastW dX8_quitNow_53 (by decide) (s_124 hsh) (by omega) (by omega) (by decide) ?_
        refine k_eqσ (σ' := (k_up σ 124 (k_u1 (σ 124) ((105 + (4 * p)) + (m_blockOfSubject (σ 124) p s)).toNat (-1)))) rfl ?_
        refine k_iload_n dX8_quitNow_54 3 rfl rfl ?_
        exact k_retiP dX8_quitNow_55 rfl rfl rfl (show (-1 ≤ m_blockOfSubject (σ 124) p s ∧ m_blockOfSubject (σ 124) p s ≤ 1000) ∧ k_MA (k_up σ 124 (k_u1 (σ 124) ((105 + (4 * p)) + (m_blockOfSubject (σ 124) p s)).toNat (-1))) from ⟨by omega, ⟨(hMA).1, (show k_Mo (k_u1 (σ 124) ((105 + (4 * p)) + (m_blockOfSubject (σ 124) p s)).toNat (-1)) from (k_Mo_u (hMA).2.1 (by omega))), (hMA).2.2.1, (hMA).2.2.2.1, (hMA).2.2.2.2.1, (hMA).2.2.2.2.2.1, (hMA).2.2.2.2.2.2.1, (hMA).2.2.2.2.2.2.2.1, (hMA).2.2.2.2.2.2.2.2.1, (hMA).2.2.2.2.2.2.2.2.2.1, (hMA).2.2.2.2.2.2.2.2.2.2.1, (hMA).2.2.2.2.2.2.2.2.2.2.2.1, (hMA).2.2.2.2.2.2.2.2.2.2.2.2⟩⟩)
      · refine k_ift (F := (k_pP sh R_quitNow)) h7 ?_
        refine k_aload_n dX8_quitNow_34 0 rfl rfl (by decide) ?_
        refine k_iconst (v := 3) dX8_quitNow_35 rfl ?_
        refine k_callVr (st := []) (as := [.int (iI (3))]) dX8_quitNow_36 oX8_bad w_1884 w_1886 w_35 rfl (by omega) rfl (Nat.le_of_ble_eq_true rfl) (by decide) (s_123 hsh) rfl (c8_bad hsh) ?_
        refine k_eqσ (σ' := (k_up σ 123 (k_u1 (σ 123) 8 (3)))) ((show k_up σ 123 (k_u1 (σ 123) 8 (3)) = (k_up σ 123 (k_u1 (σ 123) 8 (3))) from rfl)).symm ?_
        exact k_retiP dX8_quitNow_39 rfl rfl rfl (show (-1 ≤ (0 : Int) ∧ (0 : Int) ≤ 1000) ∧ k_MA (k_up σ 123 (k_u1 (σ 123) 8 (3))) from ⟨by omega, ⟨(show k_F0 (k_u1 (σ 123) 8 (3)) from (k_F0_u (hMA).1 (by omega))), (hMA).2.1, (hMA).2.2.1, (hMA).2.2.2.1, (hMA).2.2.2.2.1, (hMA).2.2.2.2.2.1, (hMA).2.2.2.2.2.2.1, (hMA).2.2.2.2.2.2.2.1, (hMA).2.2.2.2.2.2.2.2.1, (hMA).2.2.2.2.2.2.2.2.2.1, (hMA).2.2.2.2.2.2.2.2.2.2.1, (hMA).2.2.2.2.2.2.2.2.2.2.2.1, (hMA).2.2.2.2.2.2.2.2.2.2.2.2⟩⟩)
    · have h5 := zb_0.mp h5
      refine k_iff (F := (k_pP sh R_quitNow)) h5 ?_
      refine k_aload_n dX8_quitNow_16 0 rfl rfl (by decide) ?_
      refine k_iconst (v := 1) dX8_quitNow_17 rfl ?_
      refine k_callVr (st := []) (as := [.int (iI (1))]) dX8_quitNow_18 oX8_bad w_1884 w_1886 w_35 rfl (by omega) rfl (Nat.le_of_ble_eq_true rfl) (by decide) (s_123 hsh) rfl (c8_bad hsh) ?_
      refine k_eqσ (σ' := (k_up σ 123 (k_u1 (σ 123) 8 (1)))) ((show k_up σ 123 (k_u1 (σ 123) 8 (1)) = (k_up σ 123 (k_u1 (σ 123) 8 (1))) from rfl)).symm ?_
      exact k_retiP dX8_quitNow_21 rfl rfl rfl (show (-1 ≤ (0 : Int) ∧ (0 : Int) ≤ 1000) ∧ k_MA (k_up σ 123 (k_u1 (σ 123) 8 (1))) from ⟨by omega, ⟨(show k_F0 (k_u1 (σ 123) 8 (1)) from (k_F0_u (hMA).1 (by omega))), (hMA).2.1, (hMA).2.2.1, (hMA).2.2.2.1, (hMA).2.2.2.2.1, (hMA).2.2.2.2.2.1, (hMA).2.2.2.2.2.2.1, (hMA).2.2.2.2.2.2.2.1, (hMA).2.2.2.2.2.2.2.2.1, (hMA).2.2.2.2.2.2.2.2.2.1, (hMA).2.2.2.2.2.2.2.2.2.2.1, (hMA).2.2.2.2.2.2.2.2.2.2.2.1, (hMA).2.2.2.2.2.2.2.2.2.2.2.2⟩⟩)
abbrev R_changeNow (t : Int × (Nat → Nat → Int)) : Prop := (-1 ≤ t.1 ∧ t.1 ≤ 1000) ∧ k_MA t.2
def m_changeNow (σ : Nat → Nat → Int) (p : Int) (a : Int) (b : Int) : Int × (Nat → Nat → Int) := if 0 ≤ p ∧ p < (σ 124) 2 then if 0 ≤ a ∧ a < (σ 124) 0 then if 0 ≤ b ∧ b < (σ 124) 0 then if (m_blockOfSubject (σ 124) p a) = (-1) then (0, (k_up σ 123 (k_u1 (σ 123) 8 (3)))) else if (m_blockOfSubject (σ 124) p b) = (-1) then if (((m_joinNow (k_up σ 124 (k_u1 (σ 124) ((105 + (4 * p)) + (m_blockOfSubject (σ 124) p a)).toNat (-1))) p b).2 123) 8) = 0 then ((m_joinNow (k_up σ 124 (k_u1 (σ 124) ((105 + (4 * p)) + (m_blockOfSubject (σ 124) p a)).toNat (-1))) p b).1, (m_joinNow (k_up σ 124 (k_u1 (σ 124) ((105 + (4 * p)) + (m_blockOfSubject (σ 124) p a)).toNat (-1))) p b).2) else ((m_joinNow (k_up σ 124 (k_u1 (σ 124) ((105 + (4 * p)) + (m_blockOfSubject (σ 124) p a)).toNat (-1))) p b).1, (k_up (m_joinNow (k_up σ 124 (k_u1 (σ 124) ((105 + (4 * p)) + (m_blockOfSubject (σ 124) p a)).toNat (-1))) p b).2 124 (k_u1 ((m_joinNow (k_up σ 124 (k_u1 (σ 124) ((105 + (4 * p)) + (m_blockOfSubject (σ 124) p a)).toNat (-1))) p b).2 124) ((105 + (4 * p)) + (m_blockOfSubject (σ 124) p a)).toNat (a)))) else (0, (k_up σ 123 (k_u1 (σ 123) 8 (3)))) else (0, (k_up σ 123 (k_u1 (σ 123) 8 (1)))) else (0, (k_up σ 123 (k_u1 (σ 123) 8 (1)))) else (0, (k_up σ 123 (k_u1 (σ 123) 8 (1))))
set_option maxRecDepth 100000 in
set_option maxHeartbeats 4000000 in
theorem c8_changeNow (hsh : k_Main sh) (hMA : k_MA σ) {p a b : Int} (h_p : -2147483648 ≤ p ∧ p < 2147483648) (h_a : -2147483648 ≤ a ∧ a < 2147483648) (h_b : -2147483648 ≤ b ∧ b < 2147483648) : k_C E mX8_changeNow 6 [.ref 123, .int (iI (p)), .int (iI (a)), .int (iI (b))] sh σ 0 0 ((k_pP sh R_changeNow) (m_changeNow σ p a b)) := by
  refine k_C_of (ls0 := [(0, .ref 123), (1, .int (iI (p))), (2, .int (iI (a))), (3, .int (iI (b)))]) rfl pnX8 (fun v hv => k_cat1 rfl hv) (Nat.le_of_ble_eq_true rfl) rfl ?_
  obtain ⟨⟨t0, t0b⟩, ⟨t1, t1b⟩, ⟨t2, t2b⟩, ⟨t3, t3b⟩, -⟩ := id hMA.2.1
  obtain ⟨⟨f21_0, g21_0⟩, ⟨f21_1, g21_1⟩, ⟨f21_2, g21_2⟩, ⟨f21_3, g21_3⟩, ⟨f21_4, g21_4⟩, ⟨f21_5, g21_5⟩, ⟨f21_6, g21_6⟩, ⟨f21_7, g21_7⟩, ⟨f21_8, g21_8⟩, ⟨f21_9, g21_9⟩, ⟨f21_10, g21_10⟩, ⟨f21_11, g21_11⟩, ⟨f21_12, g21_12⟩, ⟨f21_13, g21_13⟩⟩ := id hMA.1
  unfold m_changeNow
  refine k_aload_n dX8_changeNow_0 0 rfl rfl (by decide) ?_
  refine k_iload_n dX8_changeNow_1 1 rfl rfl ?_
  refine k_callVr (st := []) (as := [.int (iI (p))]) dX8_changeNow_2 oX8_isPupil w_1992 w_1994 w_49 rfl (by omega) rfl (Nat.le_of_ble_eq_true rfl) (by decide) (s_123 hsh) rfl (c8_isPupil (σ := σ) hsh (hMA).2.1 ⟨by omega, by omega⟩) ?_
  refine k_if_eq (tgt := 24) dX8_changeNow_5 rfl (zb_kr _) (fun h2 => ?_) (fun h2 => ?_)
  · have h2 := zb_0.mp h2
    refine k_iff (F := (k_pP sh R_changeNow)) h2 ?_
    refine k_aload_n dX8_changeNow_24 0 rfl rfl (by decide) ?_
    refine k_iconst (v := 1) dX8_changeNow_25 rfl ?_
    refine k_callVr (st := []) (as := [.int (iI (1))]) dX8_changeNow_26 oX8_bad w_1884 w_1886 w_35 rfl (by omega) rfl (Nat.le_of_ble_eq_true rfl) (by decide) (s_123 hsh) rfl (c8_bad hsh) ?_
    refine k_eqσ (σ' := (k_up σ 123 (k_u1 (σ 123) 8 (1)))) ((show k_up σ 123 (k_u1 (σ 123) 8 (1)) = (k_up σ 123 (k_u1 (σ 123) 8 (1))) from rfl)).symm ?_
    exact k_retiP dX8_changeNow_29 rfl rfl rfl (show (-1 ≤ (0 : Int) ∧ (0 : Int) ≤ 1000) ∧ k_MA (k_up σ 123 (k_u1 (σ 123) 8 (1))) from ⟨by omega, ⟨(show k_F0 (k_u1 (σ 123) 8 (1)) from (k_F0_u (hMA).1 (by omega))), (hMA).2.1, (hMA).2.2.1, (hMA).2.2.2.1, (hMA).2.2.2.2.1, (hMA).2.2.2.2.2.1, (hMA).2.2.2.2.2.2.1, (hMA).2.2.2.2.2.2.2.1, (hMA).2.2.2.2.2.2.2.2.1, (hMA).2.2.2.2.2.2.2.2.2.1, (hMA).2.2.2.2.2.2.2.2.2.2.1, (hMA).2.2.2.2.2.2.2.2.2.2.2.1, (hMA).2.2.2.2.2.2.2.2.2.2.2.2⟩⟩)
  · have h2 := zb_n0.mp h2
    refine k_ift (F := (k_pP sh R_changeNow)) h2 ?_
    refine k_aload_n dX8_changeNow_8 0 rfl rfl (by decide) ?_
    refine k_iload_n dX8_changeNow_9 2 rfl rfl ?_
    refine k_callVr (st := []) (as := [.int (iI (a))]) dX8_changeNow_10 oX8_isSubject w_1900 w_1902 w_38 rfl (by omega) rfl (Nat.le_of_ble_eq_true rfl) (by decide) (s_123 hsh) rfl (c8_isSubject (σ := σ) hsh (hMA).2.1 ⟨by omega, by omega⟩) ?_
    refine k_if_eq (tgt := 24) dX8_changeNow_13 rfl (zb_kr _) (fun h5 => ?_) (fun h5 => ?_)
    · have h5 := zb_0.mp h5
      refine k_iff (F := (k_pP sh R_changeNow)) h5 ?_
      refine k_aload_n dX8_changeNow_24 0 rfl rfl (by decide) ?_
      refine k_iconst (v := 1) dX8_changeNow_25 rfl ?_
      refine k_callVr (st := []) (as := [.int (iI (1))]) dX8_changeNow_26 oX8_bad w_1884 w_1886 w_35 rfl (by omega) rfl (Nat.le_of_ble_eq_true rfl) (by decide) (s_123 hsh) rfl (c8_bad hsh) ?_
      refine k_eqσ (σ' := (k_up σ 123 (k_u1 (σ 123) 8 (1)))) ((show k_up σ 123 (k_u1 (σ 123) 8 (1)) = (k_up σ 123 (k_u1 (σ 123) 8 (1))) from rfl)).symm ?_
      exact k_retiP dX8_changeNow_29 rfl rfl rfl (show (-1 ≤ (0 : Int) ∧ (0 : Int) ≤ 1000) ∧ k_MA (k_up σ 123 (k_u1 (σ 123) 8 (1))) from ⟨by omega, ⟨(show k_F0 (k_u1 (σ 123) 8 (1)) from (k_F0_u (hMA).1 (by omega))), (hMA).2.1, (hMA).2.2.1, (hMA).2.2.2.1, (hMA).2.2.2.2.1, (hMA).2.2.2.2.2.1, (hMA).2.2.2.2.2.2.1, (hMA).2.2.2.2.2.2.2.1, (hMA).2.2.2.2.2.2.2.2.1, (hMA).2.2.2.2.2.2.2.2.2.1, (hMA).2.2.2.2.2.2.2.2.2.2.1, (hMA).2.2.2.2.2.2.2.2.2.2.2.1, (hMA).2.2.2.2.2.2.2.2.2.2.2.2⟩⟩)
    · have h5 := zb_n0.mp h5
      refine k_ift (F := (k_pP sh R_changeNow)) h5 ?_
      refine k_aload_n dX8_changeNow_16 0 rfl rfl (by decide) ?_
      refine k_iload_n dX8_changeNow_17 3 rfl rfl ?_
      refine k_callVr (st := []) (as := [.int (iI (b))]) dX8_changeNow_18 oX8_isSubject w_1900 w_1902 w_38 rfl (by omega) rfl (Nat.le_of_ble_eq_true rfl) (by decide) (s_123 hsh) rfl (c8_isSubject (σ := σ) hsh (hMA).2.1 ⟨by omega, by omega⟩) ?_
      refine k_if_ne (tgt := 30) dX8_changeNow_21 rfl (zb_kr _) (fun h8 => ?_) (fun h8 => ?_)
      · have h8 := zb_n0.mp h8
        refine k_ift (F := (k_pP sh R_changeNow)) h8 ?_
        refine k_aload_n dX8_changeNow_30 0 rfl rfl (by decide) ?_
        refine k_iload_n dX8_changeNow_31 1 rfl rfl ?_
        refine k_iload_n dX8_changeNow_32 2 rfl rfl ?_
        refine k_callVrP (st := []) (as := [.int (iI (p)), .int (iI (a))]) dX8_changeNow_33 oX8_blockOfSubject w_2032 w_2034 w_53 rfl (by omega) rfl (Nat.le_of_ble_eq_true rfl) (by decide) (s_123 hsh) rfl (c8_blockOfSubject hsh (hMA).2.1 (by omega) (by omega)) (fun z9 => ?_)
        have z9 : -1 ≤ m_blockOfSubject (σ 124) p a ∧ m_blockOfSubject (σ 124) p a ≤ 3 := z9
        refine k_istore (ls' := [(0, .ref 123), (1, .int (iI (p))), (2, .int (iI (a))), (3, .int (iI (b))), (4, .int (iI (m_blockOfSubject (σ 124) p a)))]) dX8_changeNow_36 (by decide) rfl rfl ?_
        refine k_iload dX8_changeNow_38 4 rfl ?_
        refine k_iconst (v := (-1)) dX8_changeNow_40 rfl ?_
        refine k_icmp_eq (tgt := 54) dX8_changeNow_41 rfl ⟨by omega, by omega⟩ ⟨by decide, by decide⟩ (fun h10 => ?_) (fun h10 => ?_)
        · refine k_ift (F := (k_pP sh R_changeNow)) h10 ?_
          refine k_aload_n dX8_changeNow_54 0 rfl rfl (by decide) ?_
          refine k_iconst (v := 3) dX8_changeNow_55 rfl ?_
          refine k_callVr (st := []) (as := [.int (iI (3))]) dX8_changeNow_56 oX8_bad w_1884 w_1886 w_35 rfl (by omega) rfl (Nat.le_of_ble_eq_true rfl) (by decide) (s_123 hsh) rfl (c8_bad hsh) ?_
          refine k_eqσ (σ' := (k_up σ 123 (k_u1 (σ 123) 8 (3)))) ((show k_up σ 123 (k_u1 (σ 123) 8 (3)) = (k_up σ 123 (k_u1 (σ 123) 8 (3))) from rfl)).symm ?_
          exact k_retiP dX8_changeNow_59 rfl rfl rfl (show (-1 ≤ (0 : Int) ∧ (0 : Int) ≤ 1000) ∧ k_MA (k_up σ 123 (k_u1 (σ 123) 8 (3))) from ⟨by omega, ⟨(show k_F0 (k_u1 (σ 123) 8 (3)) from (k_F0_u (hMA).1 (by omega))), (hMA).2.1, (hMA).2.2.1, (hMA).2.2.2.1, (hMA).2.2.2.2.1, (hMA).2.2.2.2.2.1, (hMA).2.2.2.2.2.2.1, (hMA).2.2.2.2.2.2.2.1, (hMA).2.2.2.2.2.2.2.2.1, (hMA).2.2.2.2.2.2.2.2.2.1, (hMA).2.2.2.2.2.2.2.2.2.2.1, (hMA).2.2.2.2.2.2.2.2.2.2.2.1, (hMA).2.2.2.2.2.2.2.2.2.2.2.2⟩⟩)
        · refine k_iff (F := (k_pP sh R_changeNow)) h10 ?_
          refine k_aload_n dX8_changeNow_44 0 rfl rfl (by decide) ?_
          refine k_iload_n dX8_changeNow_45 1 rfl rfl ?_
          refine k_iload_n dX8_changeNow_46 3 rfl rfl ?_
          refine k_callVrP (st := []) (as := [.int (iI (p)), .int (iI (b))]) dX8_changeNow_47 oX8_blockOfSubject w_2032 w_2034 w_53 rfl (by omega) rfl (Nat.le_of_ble_eq_true rfl) (by decide) (s_123 hsh) rfl (c8_blockOfSubject hsh (hMA).2.1 (by omega) (by omega)) (fun z12 => ?_)
          have z12 : -1 ≤ m_blockOfSubject (σ 124) p b ∧ m_blockOfSubject (σ 124) p b ≤ 3 := z12
          refine k_iconst (v := (-1)) dX8_changeNow_50 rfl ?_
          refine k_icmp_eq (tgt := 60) dX8_changeNow_51 rfl ⟨by omega, by omega⟩ ⟨by decide, by decide⟩ (fun h13 => ?_) (fun h13 => ?_)
          · refine k_ift (F := (k_pP sh R_changeNow)) h13 ?_
            refine k_aload_n dX8_changeNow_60 0 rfl rfl (by decide) ?_
            refine k_get (kf := 0) (v := .ref 124) dX8_changeNow_61 kcX8 w_1747 (by decide) (by decide) (s_123 hsh) rfl rfl ?_
            refine k_bipush (v := 105) dX8_changeNow_64 (by decide) ?_
            refine k_iconst (v := 4) dX8_changeNow_66 rfl ?_
            refine k_iload_n dX8_changeNow_67 1 rfl rfl ?_
            refine k_imul dX8_changeNow_68 ?_
            refine k_iadd dX8_changeNow_69 ?_
            refine k_iload dX8_changeNow_70 4 rfl ?_
            refine k_iadd dX8_changeNow_72 ?_
            refine k_iconst (v := (-1)) dX8_changeNow_73 rfl ?_
            refine k_iastW dX8_changeNow_74 (by decide) (s_124 hsh) (by omega) (by omega) (by decide) ?_
            refine k_eqσ (σ' := (k_up σ 124 (k_u1 (σ 124) ((105 + (4 * p)) + (m_blockOfSubject (σ 124) p a)).toNat (-1)))) rfl ?_
            refine k_aload_n dX8_changeNow_75 0 rfl rfl (by decide) ?_
            refine k_iload_n dX8_changeNow_76 1 rfl rfl ?_
            refine k_iload_n dX8_changeNow_77 3 rfl rfl ?_
            refine k_callVrP (st := []) (as := [.int (iI (p)), .int (iI (b))]) dX8_changeNow_78 oX8_joinNow w_2148 w_2150 w_70 rfl (by omega) rfl (Nat.le_of_ble_eq_true rfl) (by decide) (s_123 hsh) rfl (c8_joinNow (σ := (k_up σ 124 (k_u1 (σ 124) ((105 + (4 * p)) + (m_blockOfSubject (σ 124) p a)).toNat (-1)))) hsh (show k_MA (k_up σ 124 (k_u1 (σ 124) ((105 + (4 * p)) + (m_blockOfSubject (σ 124) p a)).toNat (-1))) from ⟨(hMA).1, (show k_Mo (k_u1 (σ 124) ((105 + (4 * p)) + (m_blockOfSubject (σ 124) p a)).toNat (-1)) from (k_Mo_u (hMA).2.1 (by omega))), (hMA).2.2.1, (hMA).2.2.2.1, (hMA).2.2.2.2.1, (hMA).2.2.2.2.2.1, (hMA).2.2.2.2.2.2.1, (hMA).2.2.2.2.2.2.2.1, (hMA).2.2.2.2.2.2.2.2.1, (hMA).2.2.2.2.2.2.2.2.2.1, (hMA).2.2.2.2.2.2.2.2.2.2.1, (hMA).2.2.2.2.2.2.2.2.2.2.2.1, (hMA).2.2.2.2.2.2.2.2.2.2.2.2⟩) (by omega) (by omega)) (fun z14 => ?_)
            have z14 : (-1 ≤ (m_joinNow (k_up σ 124 (k_u1 (σ 124) ((105 + (4 * p)) + (m_blockOfSubject (σ 124) p a)).toNat (-1))) p b).1 ∧ (m_joinNow (k_up σ 124 (k_u1 (σ 124) ((105 + (4 * p)) + (m_blockOfSubject (σ 124) p a)).toNat (-1))) p b).1 ≤ 1000) ∧ k_MA (m_joinNow (k_up σ 124 (k_u1 (σ 124) ((105 + (4 * p)) + (m_blockOfSubject (σ 124) p a)).toNat (-1))) p b).2 := z14
            have z15 := z14.1
            obtain ⟨⟨y16_0, y16_0b⟩, ⟨y16_1, y16_1b⟩, ⟨y16_2, y16_2b⟩, ⟨y16_3, y16_3b⟩, -⟩ := id ((z14.2)).2.1
            obtain ⟨⟨f17_0, g17_0⟩, ⟨f17_1, g17_1⟩, ⟨f17_2, g17_2⟩, ⟨f17_3, g17_3⟩, ⟨f17_4, g17_4⟩, ⟨f17_5, g17_5⟩, ⟨f17_6, g17_6⟩, ⟨f17_7, g17_7⟩, ⟨f17_8, g17_8⟩, ⟨f17_9, g17_9⟩, ⟨f17_10, g17_10⟩, ⟨f17_11, g17_11⟩, ⟨f17_12, g17_12⟩, ⟨f17_13, g17_13⟩⟩ := id ((z14.2)).1
            refine k_istore (ls' := [(0, .ref 123), (1, .int (iI (p))), (2, .int (iI (a))), (3, .int (iI (b))), (4, .int (iI (m_blockOfSubject (σ 124) p a))), (5, .int (iI ((m_joinNow (k_up σ 124 (k_u1 (σ 124) ((105 + (4 * p)) + (m_blockOfSubject (σ 124) p a)).toNat (-1))) p b).1)))]) dX8_changeNow_81 (by decide) rfl rfl ?_
            refine k_aload_n dX8_changeNow_83 0 rfl rfl (by decide) ?_
            refine k_get (kf := 8) (v := .int (iI (((m_joinNow (k_up σ 124 (k_u1 (σ 124) ((105 + (4 * p)) + (m_blockOfSubject (σ 124) p a)).toNat (-1))) p b).2 123) 8))) dX8_changeNow_84 kcX8 w_1755 (by decide) (by decide) (s_123 hsh) rfl rfl ?_
            refine k_if_eq (tgt := 105) dX8_changeNow_87 rfl ⟨by omega, by omega⟩ (fun h18 => ?_) (fun h18 => ?_)
            · refine k_ift (F := (k_pP sh R_changeNow)) h18 ?_
              refine k_iload dX8_changeNow_105 5 rfl ?_
              exact k_retiP dX8_changeNow_107 rfl rfl rfl (show (-1 ≤ (m_joinNow (k_up σ 124 (k_u1 (σ 124) ((105 + (4 * p)) + (m_blockOfSubject (σ 124) p a)).toNat (-1))) p b).1 ∧ (m_joinNow (k_up σ 124 (k_u1 (σ 124) ((105 + (4 * p)) + (m_blockOfSubject (σ 124) p a)).toNat (-1))) p b).1 ≤ 1000) ∧ k_MA (m_joinNow (k_up σ 124 (k_u1 (σ 124) ((105 + (4 * p)) + (m_blockOfSubject (σ 124) p a)).toNat (-1))) p b).2 from ⟨by omega, ⟨((z14.2)).1, ((z14.2)).2.1, ((z14.2)).2.2.1, ((z14.2)).2.2.2.1, ((z14.2)).2.2.2.2.1, ((z14.2)).2.2.2.2.2.1, ((z14.2)).2.2.2.2.2.2.1, ((z14.2)).2.2.2.2.2.2.2.1, ((z14.2)).2.2.2.2.2.2.2.2.1, ((z14.2)).2.2.2.2.2.2.2.2.2.1, ((z14.2)).2.2.2.2.2.2.2.2.2.2.1, ((z14.2)).2.2.2.2.2.2.2.2.2.2.2.1, ((z14.2)).2.2.2.2.2.2.2.2.2.2.2.2⟩⟩)
            · refine k_iff (F := (k_pP sh R_changeNow)) h18 ?_
              refine k_aload_n dX8_changeNow_90 0 rfl rfl (by decide) ?_
              refine k_get (kf := 0) (v := .ref 124) dX8_changeNow_91 kcX8 w_1747 (by decide) (by decide) (s_123 hsh) rfl rfl ?_
              refine k_bipush (v := 105) dX8_changeNow_94 (by decide) ?_
              refine k_iconst (v := 4) dX8_changeNow_96 rfl ?_
              refine k_iload_n dX8_changeNow_97 1 rfl rfl ?_
              refine k_imul dX8_changeNow_98 ?_
              refine k_iadd dX8_changeNow_99 ?_
              refine k_iload dX8_changeNow_100 4 rfl ?_
              refine k_iadd dX8_changeNow_102 ?_
              refine k_iload_n dX8_changeNow_103 2 rfl rfl ?_
              refine k_iastW dX8_changeNow_104 (by decide) (s_124 hsh) (by omega) (by omega) (by decide) ?_
              refine k_eqσ (σ' := (k_up (m_joinNow (k_up σ 124 (k_u1 (σ 124) ((105 + (4 * p)) + (m_blockOfSubject (σ 124) p a)).toNat (-1))) p b).2 124 (k_u1 ((m_joinNow (k_up σ 124 (k_u1 (σ 124) ((105 + (4 * p)) + (m_blockOfSubject (σ 124) p a)).toNat (-1))) p b).2 124) ((105 + (4 * p)) + (m_blockOfSubject (σ 124) p a)).toNat (a)))) rfl ?_
              refine k_iload dX8_changeNow_105 5 rfl ?_
              exact k_retiP dX8_changeNow_107 rfl rfl rfl (show (-1 ≤ (m_joinNow (k_up σ 124 (k_u1 (σ 124) ((105 + (4 * p)) + (m_blockOfSubject (σ 124) p a)).toNat (-1))) p b).1 ∧ (m_joinNow (k_up σ 124 (k_u1 (σ 124) ((105 + (4 * p)) + (m_blockOfSubject (σ 124) p a)).toNat (-1))) p b).1 ≤ 1000) ∧ k_MA (k_up (m_joinNow (k_up σ 124 (k_u1 (σ 124) ((105 + (4 * p)) + (m_blockOfSubject (σ 124) p a)).toNat (-1))) p b).2 124 (k_u1 ((m_joinNow (k_up σ 124 (k_u1 (σ 124) ((105 + (4 * p)) + (m_blockOfSubject (σ 124) p a)).toNat (-1))) p b).2 124) ((105 + (4 * p)) + (m_blockOfSubject (σ 124) p a)).toNat (a))) from ⟨by omega, ⟨((z14.2)).1, (show k_Mo (k_u1 ((m_joinNow (k_up σ 124 (k_u1 (σ 124) ((105 + (4 * p)) + (m_blockOfSubject (σ 124) p a)).toNat (-1))) p b).2 124) ((105 + (4 * p)) + (m_blockOfSubject (σ 124) p a)).toNat (a)) from (k_Mo_u ((z14.2)).2.1 (by omega))), ((z14.2)).2.2.1, ((z14.2)).2.2.2.1, ((z14.2)).2.2.2.2.1, ((z14.2)).2.2.2.2.2.1, ((z14.2)).2.2.2.2.2.2.1, ((z14.2)).2.2.2.2.2.2.2.1, ((z14.2)).2.2.2.2.2.2.2.2.1, ((z14.2)).2.2.2.2.2.2.2.2.2.1, ((z14.2)).2.2.2.2.2.2.2.2.2.2.1, ((z14.2)).2.2.2.2.2.2.2.2.2.2.2.1, ((z14.2)).2.2.2.2.2.2.2.2.2.2.2.2⟩⟩)
          · refine k_iff (F := (k_pP sh R_changeNow)) h13 ?_
            refine k_aload_n dX8_changeNow_54 0 rfl rfl (by decide) ?_
            refine k_iconst (v := 3) dX8_changeNow_55 rfl ?_
            refine k_callVr (st := []) (as := [.int (iI (3))]) dX8_changeNow_56 oX8_bad w_1884 w_1886 w_35 rfl (by omega) rfl (Nat.le_of_ble_eq_true rfl) (by decide) (s_123 hsh) rfl (c8_bad hsh) ?_
            refine k_eqσ (σ' := (k_up σ 123 (k_u1 (σ 123) 8 (3)))) ((show k_up σ 123 (k_u1 (σ 123) 8 (3)) = (k_up σ 123 (k_u1 (σ 123) 8 (3))) from rfl)).symm ?_
            exact k_retiP dX8_changeNow_59 rfl rfl rfl (show (-1 ≤ (0 : Int) ∧ (0 : Int) ≤ 1000) ∧ k_MA (k_up σ 123 (k_u1 (σ 123) 8 (3))) from ⟨by omega, ⟨(show k_F0 (k_u1 (σ 123) 8 (3)) from (k_F0_u (hMA).1 (by omega))), (hMA).2.1, (hMA).2.2.1, (hMA).2.2.2.1, (hMA).2.2.2.2.1, (hMA).2.2.2.2.2.1, (hMA).2.2.2.2.2.2.1, (hMA).2.2.2.2.2.2.2.1, (hMA).2.2.2.2.2.2.2.2.1, (hMA).2.2.2.2.2.2.2.2.2.1, (hMA).2.2.2.2.2.2.2.2.2.2.1, (hMA).2.2.2.2.2.2.2.2.2.2.2.1, (hMA).2.2.2.2.2.2.2.2.2.2.2.2⟩⟩)
      · have h8 := zb_0.mp h8
        refine k_iff (F := (k_pP sh R_changeNow)) h8 ?_
        refine k_aload_n dX8_changeNow_24 0 rfl rfl (by decide) ?_
        refine k_iconst (v := 1) dX8_changeNow_25 rfl ?_
        refine k_callVr (st := []) (as := [.int (iI (1))]) dX8_changeNow_26 oX8_bad w_1884 w_1886 w_35 rfl (by omega) rfl (Nat.le_of_ble_eq_true rfl) (by decide) (s_123 hsh) rfl (c8_bad hsh) ?_
        refine k_eqσ (σ' := (k_up σ 123 (k_u1 (σ 123) 8 (1)))) ((show k_up σ 123 (k_u1 (σ 123) 8 (1)) = (k_up σ 123 (k_u1 (σ 123) 8 (1))) from rfl)).symm ?_
        exact k_retiP dX8_changeNow_29 rfl rfl rfl (show (-1 ≤ (0 : Int) ∧ (0 : Int) ≤ 1000) ∧ k_MA (k_up σ 123 (k_u1 (σ 123) 8 (1))) from ⟨by omega, ⟨(show k_F0 (k_u1 (σ 123) 8 (1)) from (k_F0_u (hMA).1 (by omega))), (hMA).2.1, (hMA).2.2.1, (hMA).2.2.2.1, (hMA).2.2.2.2.1, (hMA).2.2.2.2.2.1, (hMA).2.2.2.2.2.2.1, (hMA).2.2.2.2.2.2.2.1, (hMA).2.2.2.2.2.2.2.2.1, (hMA).2.2.2.2.2.2.2.2.2.1, (hMA).2.2.2.2.2.2.2.2.2.2.1, (hMA).2.2.2.2.2.2.2.2.2.2.2.1, (hMA).2.2.2.2.2.2.2.2.2.2.2.2⟩⟩)
theorem z_pow4 {x b : Int} {i : Nat} (hx : 1 ≤ x ∧ x ≤ 4 ^ i) (hb : 1 ≤ b ∧ b ≤ 4) : 1 ≤ x * b ∧ x * b ≤ 4 ^ (i + 1) := by
  have h1 : 1 * 1 ≤ x * b := Int.mul_le_mul hx.1 hb.1 (by decide) (by omega)
  have h2 : x * b ≤ 4 ^ i * 4 := Int.mul_le_mul hx.2 hb.2 (by omega) (by have := hx.1; omega)
  rw [Int.pow_succ]
  exact ⟨h1, h2⟩
theorem z_pow7 {n : Nat} (h : n ≤ 7) : (4 : Int) ^ n ≤ 16384 := by
  have : n = 0 ∨ n = 1 ∨ n = 2 ∨ n = 3 ∨ n = 4 ∨ n = 5 ∨ n = 6 ∨ n = 7 := by omega
  rcases this with rfl | rfl | rfl | rfl | rfl | rfl | rfl | rfl <;> decide
abbrev R_findsArrangement (t : Int × (Nat → Nat → Int)) : Prop := (-1 ≤ t.1 ∧ t.1 ≤ 1000) ∧ k_MA t.2
def r_findsArrangement_79 (σ : Nat → Nat → Int) (x9 : (Nat → Int)) (x54 : Int) (x79 : Int × (Nat → Int) × (Nat → Int)) : Int × (Nat → Nat → Int) := (x79.1, (k_up (k_up (k_up σ 134 x9) 135 (x79.2.1)) 136 (x79.2.2)))
def r_findsArrangement_225 (σ : Nat → Nat → Int) (x9 : (Nat → Int)) (x54 : Int) (i79 : Nat) (x79 : Int × (Nat → Int) × (Nat → Int)) (x94 : Int × (Nat → Int)) (x138 : Int) (x225 : (Nat → Int)) : Int × (Nat → Int) × (Nat → Int) := (x138, (x94.2), x225)
def b_findsArrangement_225 (σ : Nat → Nat → Int) (x9 : (Nat → Int)) (x54 : Int) (i79 : Nat) (x79 : Int × (Nat → Int) × (Nat → Int)) (x94 : Int × (Nat → Int)) (x138 : Int) (i225 : Nat) (x225 : (Nat → Int)) : (Nat → Int) := (k_u1 x225 ((i225 : Int)).toNat ((x94.2) ((i225 : Int)).toNat))
def r_findsArrangement_225_2 (σ : Nat → Nat → Int) (x9 : (Nat → Int)) (x54 : Int) (i79 : Nat) (x79 : Int × (Nat → Int) × (Nat → Int)) (x94 : Int × (Nat → Int)) (x138 : Int) (x225 : (Nat → Int)) : Int × (Nat → Int) × (Nat → Int) := (x138, (x94.2), x225)
def b_findsArrangement_225_2 (σ : Nat → Nat → Int) (x9 : (Nat → Int)) (x54 : Int) (i79 : Nat) (x79 : Int × (Nat → Int) × (Nat → Int)) (x94 : Int × (Nat → Int)) (x138 : Int) (i225 : Nat) (x225 : (Nat → Int)) : (Nat → Int) := (k_u1 x225 ((i225 : Int)).toNat ((x94.2) ((i225 : Int)).toNat))
def r_findsArrangement_138 (σ : Nat → Nat → Int) (x9 : (Nat → Int)) (x54 : Int) (i79 : Nat) (x79 : Int × (Nat → Int) × (Nat → Int)) (x94 : Int × (Nat → Int)) (x138 : Int) : Int × (Nat → Int) × (Nat → Int) := if (x79.1) = (-1) then (r_findsArrangement_225 σ x9 x54 i79 x79 x94 x138) (k_it (b_findsArrangement_225 σ x9 x54 i79 x79 x94 x138) (((σ 124) 0).toNat) 0 ((x79.2.2))) else if x138 < (x79.1) then (r_findsArrangement_225_2 σ x9 x54 i79 x79 x94 x138) (k_it (b_findsArrangement_225_2 σ x9 x54 i79 x79 x94 x138) (((σ 124) 0).toNat) 0 ((x79.2.2))) else (x79.1, (x94.2), (x79.2.2))
def r_findsArrangement_147 (σ : Nat → Nat → Int) (x9 : (Nat → Int)) (x54 : Int) (i79 : Nat) (x79 : Int × (Nat → Int) × (Nat → Int)) (x94 : Int × (Nat → Int)) (i138 : Nat) (x138 : Int) (x147 : Int) : Int := x147
def b_findsArrangement_147 (σ : Nat → Nat → Int) (x9 : (Nat → Int)) (x54 : Int) (i79 : Nat) (x79 : Int × (Nat → Int) × (Nat → Int)) (x94 : Int × (Nat → Int)) (i138 : Nat) (x138 : Int) (i147 : Nat) (x147 : Int) : Int := if ((x94.2) ((i138 : Int)).toNat) = ((x94.2) ((i147 : Int)).toNat) then x147 + (x9 ((7 * ((i138 : Int))) + ((i147 : Int))).toNat) else x147 + 0
def b_findsArrangement_138 (σ : Nat → Nat → Int) (x9 : (Nat → Int)) (x54 : Int) (i79 : Nat) (x79 : Int × (Nat → Int) × (Nat → Int)) (x94 : Int × (Nat → Int)) (i138 : Nat) (x138 : Int) : Int := (r_findsArrangement_147 σ x9 x54 i79 x79 x94 i138 x138) (k_it (b_findsArrangement_147 σ x9 x54 i79 x79 x94 i138 x138) (((i138 : Int)).toNat) 0 (x138))
def r_findsArrangement_94 (σ : Nat → Nat → Int) (x9 : (Nat → Int)) (x54 : Int) (i79 : Nat) (x79 : Int × (Nat → Int) × (Nat → Int)) (x94 : Int × (Nat → Int)) : Int × (Nat → Int) × (Nat → Int) := (r_findsArrangement_138 σ x9 x54 i79 x79 x94) (k_it (b_findsArrangement_138 σ x9 x54 i79 x79 x94) (((σ 124) 0).toNat) 0 (0))
def b_findsArrangement_94 (σ : Nat → Nat → Int) (x9 : (Nat → Int)) (x54 : Int) (i79 : Nat) (x79 : Int × (Nat → Int) × (Nat → Int)) (i94 : Nat) (x94 : Int × (Nat → Int)) : Int × (Nat → Int) := ((x94.1) / ((σ 124) 1), (k_u1 (x94.2) ((σ 124) 0 - 1 - (i94 : Int)).toNat ((x94.1) % ((σ 124) 1))))
def b_findsArrangement_79 (σ : Nat → Nat → Int) (x9 : (Nat → Int)) (x54 : Int) (i79 : Nat) (x79 : Int × (Nat → Int) × (Nat → Int)) : Int × (Nat → Int) × (Nat → Int) := (r_findsArrangement_94 σ x9 x54 i79 x79) (k_it (b_findsArrangement_94 σ x9 x54 i79 x79) (((σ 124) 0).toNat) 0 (((i79 : Int), (x79.2.1))))
def r_findsArrangement_54 (σ : Nat → Nat → Int) (x9 : (Nat → Int)) (x54 : Int) : Int × (Nat → Nat → Int) := (r_findsArrangement_79 σ x9 x54) (k_it (b_findsArrangement_79 σ x9 x54) ((x54).toNat) 0 ((-1, (σ 135), (σ 136))))
def b_findsArrangement_54 (σ : Nat → Nat → Int) (x9 : (Nat → Int)) (i54 : Nat) (x54 : Int) : Int := x54 * ((σ 124) 1)
def r_findsArrangement_9 (σ : Nat → Nat → Int) (x9 : (Nat → Int)) : Int × (Nat → Nat → Int) := (r_findsArrangement_54 σ x9) (k_it (b_findsArrangement_54 σ x9) (((σ 124) 0).toNat) 0 (1))
def r_findsArrangement_16 (σ : Nat → Nat → Int) (i9 : Nat) (x9 : (Nat → Int)) (x16 : (Nat → Int)) : (Nat → Int) := x16
def b_findsArrangement_16 (σ : Nat → Nat → Int) (i9 : Nat) (x9 : (Nat → Int)) (i16 : Nat) (x16 : (Nat → Int)) : (Nat → Int) := (k_u1 x16 ((7 * ((i9 : Int))) + ((i16 : Int))).toNat (m_common (σ 124) (i9 : Int) (i16 : Int)))
def b_findsArrangement_9 (σ : Nat → Nat → Int) (i9 : Nat) (x9 : (Nat → Int)) : (Nat → Int) := (r_findsArrangement_16 σ i9 x9) (k_it (b_findsArrangement_16 σ i9 x9) (((i9 : Int)).toNat) 0 (x9))
def m_findsArrangement (σ : Nat → Nat → Int) : Int × (Nat → Nat → Int) := (r_findsArrangement_9 σ) (k_it (b_findsArrangement_9 σ) (((σ 124) 0).toNat) 0 ((σ 134)))
set_option maxRecDepth 100000 in
set_option maxHeartbeats 4000000 in
theorem c8_findsArrangement (hsh : k_Main sh) (hMA : k_MA σ)  : k_C E mX8_findsArrangement 5 [.ref 123] sh σ 0 0 ((k_pP sh R_findsArrangement) (m_findsArrangement σ)) := by
  refine k_C_of (ls0 := [(0, .ref 123)]) rfl pnX8 (fun v hv => k_cat1 rfl hv) (Nat.le_of_ble_eq_true rfl) rfl ?_
  obtain ⟨⟨t0, t0b⟩, ⟨t1, t1b⟩, ⟨t2, t2b⟩, ⟨t3, t3b⟩, -⟩ := id hMA.2.1
  obtain ⟨⟨f41_0, g41_0⟩, ⟨f41_1, g41_1⟩, ⟨f41_2, g41_2⟩, ⟨f41_3, g41_3⟩, ⟨f41_4, g41_4⟩, ⟨f41_5, g41_5⟩, ⟨f41_6, g41_6⟩, ⟨f41_7, g41_7⟩, ⟨f41_8, g41_8⟩, ⟨f41_9, g41_9⟩, ⟨f41_10, g41_10⟩, ⟨f41_11, g41_11⟩, ⟨f41_12, g41_12⟩, ⟨f41_13, g41_13⟩⟩ := id hMA.1
  unfold m_findsArrangement
  refine k_aload_n dX8_findsArrangement_0 0 rfl rfl (by decide) ?_
  refine k_get (kf := 0) (v := .ref 124) dX8_findsArrangement_1 kcX8 w_1747 (by decide) (by decide) (s_123 hsh) rfl rfl ?_
  refine k_iconst (v := 0) dX8_findsArrangement_4 rfl ?_
  refine k_iald dX8_findsArrangement_5 (by decide) (s_124 hsh) (by omega) (by omega) (by decide) ?_
  refine k_eqst (st' := [.int (iI ((σ 124) 0))]) rfl ?_
  refine k_istore_n (ls' := [(0, .ref 123), (1, .int (iI ((σ 124) 0)))]) dX8_findsArrangement_6 rfl (by decide) rfl rfl ?_
  refine k_iconst (v := 0) dX8_findsArrangement_7 rfl ?_
  refine k_istore_n (ls' := [(0, .ref 123), (1, .int (iI ((σ 124) 0))), (2, .int (iI (0)))]) dX8_findsArrangement_8 rfl (by decide) rfl rfl ?_
  refine k_eqσ (σ' := (k_up σ 134 (σ 134))) ((show k_up σ 134 (σ 134) = (k_up σ 134 (σ 134)) from rfl).symm.trans (k_up_self _ _)) ?_
  refine k_loop (α := (Nat → Int)) (P := fun (i9 : Nat) (x9 : (Nat → Int)) Q => k_V E mX8_findsArrangement _ 9 [(0, .ref 123), (1, .int (iI ((σ 124) 0))), (2, .int (iI ((i9 : Int))))] [] sh (k_up σ 134 x9) _ _ Q) (J := fun (i9 : Nat) (x9 : (Nat → Int)) => (k_rg 0 12 x9)) (((σ 124) 0).toNat) (b_findsArrangement_9 σ) ((σ 134)) (F := fun t => (k_pP sh R_findsArrangement) ((r_findsArrangement_9 σ) t)) (show (k_rg 0 12 (σ 134)) from (hMA).2.2.2.2.2.2.2.1) ?_ ?_
  · intro x9 hJ9
    have hJ9 : (k_rg 0 12 x9) := hJ9
    have hW9_134 := hJ9
    show k_V E mX8_findsArrangement _ 9 [(0, .ref 123), (1, .int (iI ((σ 124) 0))), (2, .int (iI (((((σ 124) 0).toNat : Nat) : Int))))] [] sh (k_up σ 134 x9) _ _ ((k_pP sh R_findsArrangement) ((r_findsArrangement_9 σ) x9))
    unfold r_findsArrangement_9
    refine k_iload_n dX8_findsArrangement_9 2 rfl rfl ?_
    refine k_iload_n dX8_findsArrangement_10 1 rfl rfl ?_
    refine k_icmp_ge (tgt := 50) dX8_findsArrangement_11 rfl ⟨by omega, by omega⟩ ⟨by omega, by omega⟩ (fun h2 => ?_) (fun h2 => absurd h2 (by omega))
    refine k_iconst (v := 1) dX8_findsArrangement_50 rfl ?_
    refine k_istore_n (ls' := [(0, .ref 123), (1, .int (iI ((σ 124) 0))), (2, .int (iI (1)))]) dX8_findsArrangement_51 rfl (by decide) rfl rfl ?_
    refine k_iconst (v := 0) dX8_findsArrangement_52 rfl ?_
    refine k_istore_n (ls' := [(0, .ref 123), (1, .int (iI ((σ 124) 0))), (2, .int (iI (1))), (3, .int (iI (0)))]) dX8_findsArrangement_53 rfl (by decide) rfl rfl ?_
    refine k_loop (α := Int) (P := fun (i54 : Nat) (x54 : Int) Q => k_V E mX8_findsArrangement _ 54 [(0, .ref 123), (1, .int (iI ((σ 124) 0))), (2, .int (iI (x54))), (3, .int (iI ((i54 : Int))))] [] sh (k_up σ 134 x9) _ _ Q) (J := fun (i54 : Nat) (x54 : Int) => 1 ≤ x54 ∧ x54 ≤ 4 ^ (i54)) (((σ 124) 0).toNat) (b_findsArrangement_54 σ x9) (1) (F := fun t => (k_pP sh R_findsArrangement) ((r_findsArrangement_54 σ x9) t)) (show 1 ≤ (1 : Int) ∧ (1 : Int) ≤ 4 ^ (0) from ⟨by decide, by decide⟩) ?_ ?_
    · intro x54 hJ54
      have hJ54 : 1 ≤ x54 ∧ x54 ≤ 4 ^ (((σ 124) 0).toNat) := hJ54
      have hU54 := hJ54
      have p54 := z_pow7 (n := (((σ 124) 0).toNat)) (by omega)
      show k_V E mX8_findsArrangement _ 54 [(0, .ref 123), (1, .int (iI ((σ 124) 0))), (2, .int (iI (x54))), (3, .int (iI (((((σ 124) 0).toNat : Nat) : Int))))] [] sh (k_up σ 134 x9) _ _ ((k_pP sh R_findsArrangement) ((r_findsArrangement_54 σ x9) x54))
      unfold r_findsArrangement_54
      refine k_iload_n dX8_findsArrangement_54 3 rfl rfl ?_
      refine k_iload_n dX8_findsArrangement_55 1 rfl rfl ?_
      refine k_icmp_ge (tgt := 74) dX8_findsArrangement_56 rfl ⟨by omega, by omega⟩ ⟨by omega, by omega⟩ (fun h4 => ?_) (fun h4 => absurd h4 (by omega))
      refine k_iconst (v := (-1)) dX8_findsArrangement_74 rfl ?_
      refine k_istore_n (ls' := [(0, .ref 123), (1, .int (iI ((σ 124) 0))), (2, .int (iI (x54))), (3, .int (iI (-1)))]) dX8_findsArrangement_75 rfl (by decide) rfl rfl ?_
      refine k_iconst (v := 0) dX8_findsArrangement_76 rfl ?_
      refine k_istore (ls' := [(0, .ref 123), (1, .int (iI ((σ 124) 0))), (2, .int (iI (x54))), (3, .int (iI (-1))), (4, .int (iI (0)))]) dX8_findsArrangement_77 (by decide) rfl rfl ?_
      refine k_eqσ (σ' := (k_up (k_up σ 134 x9) 135 (σ 135))) ((show k_up (k_up σ 134 x9) 135 (σ 135) = (k_up (k_up σ 134 x9) 135 (σ 135)) from rfl).symm.trans (k_up_self _ _)) ?_
      refine k_eqσ (σ' := (k_up (k_up (k_up σ 134 x9) 135 (σ 135)) 136 (σ 136))) ((show k_up (k_up (k_up σ 134 x9) 135 (σ 135)) 136 (σ 136) = (k_up (k_up (k_up σ 134 x9) 135 (σ 135)) 136 (σ 136)) from rfl).symm.trans (k_up_self _ _)) ?_
      refine k_loop (α := Int × (Nat → Int) × (Nat → Int)) (P := fun (i79 : Nat) (x79 : Int × (Nat → Int) × (Nat → Int)) Q => k_V E mX8_findsArrangement _ 79 [(0, .ref 123), (1, .int (iI ((σ 124) 0))), (2, .int (iI (x54))), (3, .int (iI (x79.1))), (4, .int (iI ((i79 : Int))))] [] sh (k_up (k_up (k_up σ 134 x9) 135 (x79.2.1)) 136 (x79.2.2)) _ _ Q) (J := fun (i79 : Nat) (x79 : Int × (Nat → Int) × (Nat → Int)) => (-1 ≤ x79.1 ∧ x79.1 ≤ 600) ∧ ((k_rg 0 3 x79.2.1)) ∧ (k_rg 0 3 x79.2.2)) ((x54).toNat) (b_findsArrangement_79 σ x9 x54) ((-1, (σ 135), (σ 136))) (F := fun t => (k_pP sh R_findsArrangement) ((r_findsArrangement_79 σ x9 x54) t)) (show (-1 ≤ (-1 : Int) ∧ (-1 : Int) ≤ 600) ∧ ((k_rg 0 3 (σ 135))) ∧ (k_rg 0 3 (σ 136)) from ⟨(by omega), (hMA).2.2.2.2.2.2.2.2.1, (hMA).2.2.2.2.2.2.2.2.2.1⟩) ?_ ?_
      · intro x79 hJ79
        have hJ79 : (-1 ≤ x79.1 ∧ x79.1 ≤ 600) ∧ ((k_rg 0 3 x79.2.1)) ∧ (k_rg 0 3 x79.2.2) := hJ79
        obtain ⟨hU79, hW79_135, hW79_136⟩ := id hJ79
        show k_V E mX8_findsArrangement _ 79 [(0, .ref 123), (1, .int (iI ((σ 124) 0))), (2, .int (iI (x54))), (3, .int (iI (x79.1))), (4, .int (iI ((((x54).toNat : Nat) : Int))))] [] sh (k_up (k_up (k_up σ 134 x9) 135 (x79.2.1)) 136 (x79.2.2)) _ _ ((k_pP sh R_findsArrangement) ((r_findsArrangement_79 σ x9 x54) x79))
        unfold r_findsArrangement_79
        refine k_iload dX8_findsArrangement_79 4 rfl ?_
        refine k_iload_n dX8_findsArrangement_81 2 rfl rfl ?_
        refine k_icmp_ge (tgt := 257) dX8_findsArrangement_82 rfl ⟨by omega, by omega⟩ ⟨by omega, by omega⟩ (fun h6 => ?_) (fun h6 => absurd h6 (by omega))
        refine k_iload_n dX8_findsArrangement_257 3 rfl rfl ?_
        exact k_retiP dX8_findsArrangement_258 rfl rfl rfl (show (-1 ≤ x79.1 ∧ x79.1 ≤ 1000) ∧ k_MA (k_up (k_up (k_up σ 134 x9) 135 (x79.2.1)) 136 (x79.2.2)) from ⟨by omega, ⟨(hMA).1, (hMA).2.1, (hMA).2.2.1, (hMA).2.2.2.1, (hMA).2.2.2.2.1, (hMA).2.2.2.2.2.1, (hMA).2.2.2.2.2.2.1, hW9_134, hW79_135, hW79_136, (hMA).2.2.2.2.2.2.2.2.2.2.1, (hMA).2.2.2.2.2.2.2.2.2.2.2.1, (hMA).2.2.2.2.2.2.2.2.2.2.2.2⟩⟩)
      · intro n79 i79 x79 hi79 hJ79 ih79
        have hJ79 : (-1 ≤ x79.1 ∧ x79.1 ≤ 600) ∧ ((k_rg 0 3 x79.2.1)) ∧ (k_rg 0 3 x79.2.2) := hJ79
        obtain ⟨hU79, hW79_135, hW79_136⟩ := id hJ79
        show k_V E mX8_findsArrangement _ 79 [(0, .ref 123), (1, .int (iI ((σ 124) 0))), (2, .int (iI (x54))), (3, .int (iI (x79.1))), (4, .int (iI ((i79 : Int))))] [] sh (k_up (k_up (k_up σ 134 x9) 135 (x79.2.1)) 136 (x79.2.2)) _ _ ((fun t => (k_pP sh R_findsArrangement) ((r_findsArrangement_79 σ x9 x54) (k_it (b_findsArrangement_79 σ x9 x54) n79 (i79 + 1) t))) ((b_findsArrangement_79 σ x9 x54) i79 x79))
        unfold b_findsArrangement_79
        refine k_iload dX8_findsArrangement_79 4 rfl ?_
        refine k_iload_n dX8_findsArrangement_81 2 rfl rfl ?_
        refine k_icmp_ge (tgt := 257) dX8_findsArrangement_82 rfl ⟨by omega, by omega⟩ ⟨by omega, by omega⟩ (fun h7 => absurd h7 (by omega)) (fun h7 => ?_)
        refine k_iload dX8_findsArrangement_85 4 rfl ?_
        refine k_istore (ls' := [(0, .ref 123), (1, .int (iI ((σ 124) 0))), (2, .int (iI (x54))), (3, .int (iI (x79.1))), (4, .int (iI ((i79 : Int)))), (5, .int (iI ((i79 : Int))))]) dX8_findsArrangement_87 (by decide) rfl rfl ?_
        refine k_iload_n dX8_findsArrangement_89 1 rfl rfl ?_
        refine k_iconst (v := 1) dX8_findsArrangement_90 rfl ?_
        refine k_isub dX8_findsArrangement_91 ?_
        refine k_istore (ls' := [(0, .ref 123), (1, .int (iI ((σ 124) 0))), (2, .int (iI (x54))), (3, .int (iI (x79.1))), (4, .int (iI ((i79 : Int)))), (5, .int (iI ((i79 : Int)))), (6, .int (iI (((σ 124) 0) - 1)))]) dX8_findsArrangement_92 (by decide) rfl rfl ?_
        refine k_lrw (q := 6) (j := 6) (a' := (σ 124) 0 - 1 - ((0 : Nat) : Int)) (ls' := [(0, .ref 123), (1, .int (iI ((σ 124) 0))), (2, .int (iI (x54))), (3, .int (iI (x79.1))), (4, .int (iI ((i79 : Int)))), (5, .int (iI ((i79 : Int)))), (6, .int (iI ((σ 124) 0 - 1 - ((0 : Nat) : Int))))]) rfl (by omega) rfl ?_
        refine k_loop (α := Int × (Nat → Int)) (P := fun (i94 : Nat) (x94 : Int × (Nat → Int)) Q => k_V E mX8_findsArrangement _ 94 [(0, .ref 123), (1, .int (iI ((σ 124) 0))), (2, .int (iI (x54))), (3, .int (iI (x79.1))), (4, .int (iI ((i79 : Int)))), (5, .int (iI (x94.1))), (6, .int (iI ((σ 124) 0 - 1 - (i94 : Int))))] [] sh (k_up (k_up (k_up σ 134 x9) 135 (x94.2)) 136 (x79.2.2)) _ _ Q) (J := fun (i94 : Nat) (x94 : Int × (Nat → Int)) => (0 ≤ x94.1 ∧ x94.1 ≤ 16384) ∧ (k_rg 0 3 x94.2)) (((σ 124) 0).toNat) (b_findsArrangement_94 σ x9 x54 i79 x79) (((i79 : Int), (x79.2.1))) (F := fun t => (fun t => (k_pP sh R_findsArrangement) ((r_findsArrangement_79 σ x9 x54) (k_it (b_findsArrangement_79 σ x9 x54) n79 (i79 + 1) t))) ((r_findsArrangement_94 σ x9 x54 i79 x79) t)) (show (0 ≤ (i79 : Int) ∧ (i79 : Int) ≤ 16384) ∧ (k_rg 0 3 (x79.2.1)) from ⟨(by omega), hW79_135⟩) ?_ ?_
        · intro x94 hJ94
          have hJ94 : (0 ≤ x94.1 ∧ x94.1 ≤ 16384) ∧ (k_rg 0 3 x94.2) := hJ94
          obtain ⟨hU94, hW94_135⟩ := id hJ94
          show k_V E mX8_findsArrangement _ 94 [(0, .ref 123), (1, .int (iI ((σ 124) 0))), (2, .int (iI (x54))), (3, .int (iI (x79.1))), (4, .int (iI ((i79 : Int)))), (5, .int (iI (x94.1))), (6, .int (iI ((σ 124) 0 - 1 - ((((σ 124) 0).toNat : Nat) : Int))))] [] sh (k_up (k_up (k_up σ 134 x9) 135 (x94.2)) 136 (x79.2.2)) _ _ ((fun t => (k_pP sh R_findsArrangement) ((r_findsArrangement_79 σ x9 x54) (k_it (b_findsArrangement_79 σ x9 x54) n79 (i79 + 1) t))) ((r_findsArrangement_94 σ x9 x54 i79 x79) x94))
          unfold r_findsArrangement_94
          refine k_iload dX8_findsArrangement_94 6 rfl ?_
          refine k_if_lt (tgt := 132) dX8_findsArrangement_96 rfl ⟨by omega, by omega⟩ (fun h9 => ?_) (fun h9 => absurd h9 (by omega))
          refine k_iconst (v := 0) dX8_findsArrangement_132 rfl ?_
          refine k_istore (ls' := [(0, .ref 123), (1, .int (iI ((σ 124) 0))), (2, .int (iI (x54))), (3, .int (iI (x79.1))), (4, .int (iI ((i79 : Int)))), (5, .int (iI (x94.1))), (6, .int (iI (0)))]) dX8_findsArrangement_133 (by decide) rfl rfl ?_
          refine k_iconst (v := 0) dX8_findsArrangement_135 rfl ?_
          refine k_istore (ls' := [(0, .ref 123), (1, .int (iI ((σ 124) 0))), (2, .int (iI (x54))), (3, .int (iI (x79.1))), (4, .int (iI ((i79 : Int)))), (5, .int (iI (x94.1))), (6, .int (iI (0))), (7, .int (iI (0)))]) dX8_findsArrangement_136 (by decide) rfl rfl ?_
          refine k_loop (α := Int) (P := fun (i138 : Nat) (x138 : Int) Q => k_V E mX8_findsArrangement _ 138 [(0, .ref 123), (1, .int (iI ((σ 124) 0))), (2, .int (iI (x54))), (3, .int (iI (x79.1))), (4, .int (iI ((i79 : Int)))), (5, .int (iI (x94.1))), (6, .int (iI (x138))), (7, .int (iI ((i138 : Int))))] [] sh (k_up (k_up (k_up σ 134 x9) 135 (x94.2)) 136 (x79.2.2)) _ _ Q) (J := fun (i138 : Nat) (x138 : Int) => 0 ≤ x138 ∧ x138 ≤ 84 * (i138 : Int)) (((σ 124) 0).toNat) (b_findsArrangement_138 σ x9 x54 i79 x79 x94) (0) (F := fun t => (fun t => (k_pP sh R_findsArrangement) ((r_findsArrangement_79 σ x9 x54) (k_it (b_findsArrangement_79 σ x9 x54) n79 (i79 + 1) t))) ((r_findsArrangement_138 σ x9 x54 i79 x79 x94) t)) (show 0 ≤ (0 : Int) ∧ (0 : Int) ≤ 84 * ((0 : Nat) : Int) from by omega) ?_ ?_
          · intro x138 hJ138
            have hJ138 : 0 ≤ x138 ∧ x138 ≤ 84 * ((((σ 124) 0).toNat : Nat) : Int) := hJ138
            have hU138 := hJ138
            show k_V E mX8_findsArrangement _ 138 [(0, .ref 123), (1, .int (iI ((σ 124) 0))), (2, .int (iI (x54))), (3, .int (iI (x79.1))), (4, .int (iI ((i79 : Int)))), (5, .int (iI (x94.1))), (6, .int (iI (x138))), (7, .int (iI (((((σ 124) 0).toNat : Nat) : Int))))] [] sh (k_up (k_up (k_up σ 134 x9) 135 (x94.2)) 136 (x79.2.2)) _ _ ((fun t => (k_pP sh R_findsArrangement) ((r_findsArrangement_79 σ x9 x54) (k_it (b_findsArrangement_79 σ x9 x54) n79 (i79 + 1) t))) ((r_findsArrangement_138 σ x9 x54 i79 x79 x94) x138))
            unfold r_findsArrangement_138
            refine k_iload dX8_findsArrangement_138 7 rfl ?_
            refine k_iload_n dX8_findsArrangement_140 1 rfl rfl ?_
            refine k_icmp_ge (tgt := 205) dX8_findsArrangement_141 rfl ⟨by omega, by omega⟩ ⟨by omega, by omega⟩ (fun h11 => ?_) (fun h11 => absurd h11 (by omega))
            refine k_iload_n dX8_findsArrangement_205 3 rfl rfl ?_
            refine k_iconst (v := (-1)) dX8_findsArrangement_206 rfl ?_
            refine k_icmp_eq (tgt := 219) dX8_findsArrangement_207 rfl ⟨by omega, by omega⟩ ⟨by decide, by decide⟩ (fun h12 => ?_) (fun h12 => ?_)
            · refine k_ift (F := (fun t => (k_pP sh R_findsArrangement) ((r_findsArrangement_79 σ x9 x54) (k_it (b_findsArrangement_79 σ x9 x54) n79 (i79 + 1) t)))) h12 ?_
              refine k_iload dX8_findsArrangement_219 6 rfl ?_
              refine k_istore_n (ls' := [(0, .ref 123), (1, .int (iI ((σ 124) 0))), (2, .int (iI (x54))), (3, .int (iI (x138))), (4, .int (iI ((i79 : Int)))), (5, .int (iI (x94.1))), (6, .int (iI (x138))), (7, .int (iI (((((σ 124) 0).toNat : Nat) : Int))))]) dX8_findsArrangement_221 rfl (by decide) rfl rfl ?_
              refine k_iconst (v := 0) dX8_findsArrangement_222 rfl ?_
              refine k_istore (ls' := [(0, .ref 123), (1, .int (iI ((σ 124) 0))), (2, .int (iI (x54))), (3, .int (iI (x138))), (4, .int (iI ((i79 : Int)))), (5, .int (iI (x94.1))), (6, .int (iI (x138))), (7, .int (iI (0)))]) dX8_findsArrangement_223 (by decide) rfl rfl ?_
              refine k_loop (α := (Nat → Int)) (P := fun (i225 : Nat) (x225 : (Nat → Int)) Q => k_V E mX8_findsArrangement _ 225 [(0, .ref 123), (1, .int (iI ((σ 124) 0))), (2, .int (iI (x54))), (3, .int (iI (x138))), (4, .int (iI ((i79 : Int)))), (5, .int (iI (x94.1))), (6, .int (iI (x138))), (7, .int (iI ((i225 : Int))))] [] sh (k_up (k_up (k_up σ 134 x9) 135 (x94.2)) 136 x225) _ _ Q) (J := fun (i225 : Nat) (x225 : (Nat → Int)) => (k_rg 0 3 x225)) (((σ 124) 0).toNat) (b_findsArrangement_225 σ x9 x54 i79 x79 x94 x138) ((x79.2.2)) (F := fun t => (fun t => (k_pP sh R_findsArrangement) ((r_findsArrangement_79 σ x9 x54) (k_it (b_findsArrangement_79 σ x9 x54) n79 (i79 + 1) t))) ((r_findsArrangement_225 σ x9 x54 i79 x79 x94 x138) t)) (show (k_rg 0 3 (x79.2.2)) from hW79_136) ?_ ?_
              · intro x225 hJ225
                have hJ225 : (k_rg 0 3 x225) := hJ225
                have hW225_136 := hJ225
                show k_V E mX8_findsArrangement _ 225 [(0, .ref 123), (1, .int (iI ((σ 124) 0))), (2, .int (iI (x54))), (3, .int (iI (x138))), (4, .int (iI ((i79 : Int)))), (5, .int (iI (x94.1))), (6, .int (iI (x138))), (7, .int (iI (((((σ 124) 0).toNat : Nat) : Int))))] [] sh (k_up (k_up (k_up σ 134 x9) 135 (x94.2)) 136 x225) _ _ ((fun t => (k_pP sh R_findsArrangement) ((r_findsArrangement_79 σ x9 x54) (k_it (b_findsArrangement_79 σ x9 x54) n79 (i79 + 1) t))) ((r_findsArrangement_225 σ x9 x54 i79 x79 x94 x138) x225))
                unfold r_findsArrangement_225
                refine k_iload dX8_findsArrangement_225 7 rfl ?_
                refine k_iload_n dX8_findsArrangement_227 1 rfl rfl ?_
                refine k_icmp_ge (tgt := 251) dX8_findsArrangement_228 rfl ⟨by omega, by omega⟩ ⟨by omega, by omega⟩ (fun h14 => ?_) (fun h14 => absurd h14 (by omega))
                refine k_iinc (ls' := [(0, .ref 123), (1, .int (iI ((σ 124) 0))), (2, .int (iI (x54))), (3, .int (iI (x138))), (4, .int (iI ((i79 : Int) + 1))), (5, .int (iI (x94.1))), (6, .int (iI (x138))), (7, .int (iI (((((σ 124) 0).toNat : Nat) : Int))))]) dX8_findsArrangement_251 4 rfl (by decide) rfl rfl ?_
                refine k_goto (tgt := 79) dX8_findsArrangement_254 rfl ?_
                refine k_dropr (ls' := [(0, .ref 123), (1, .int (iI ((σ 124) 0))), (2, .int (iI (x54))), (3, .int (iI (x138))), (4, .int (iI ((i79 : Int) + 1)))]) (ex := [(5, .int (iI (x94.1))), (6, .int (iI (x138))), (7, .int (iI (((((σ 124) 0).toNat : Nat) : Int))))]) rfl ?_
                exact ih79 ((x138, (x94.2), x225)) (show (-1 ≤ x138 ∧ x138 ≤ 600) ∧ ((k_rg 0 3 (x94.2))) ∧ (k_rg 0 3 x225) from ⟨(by omega), hW94_135, hW225_136⟩)
              · intro n225 i225 x225 hi225 hJ225 ih225
                have hJ225 : (k_rg 0 3 x225) := hJ225
                have hW225_136 := hJ225
                show k_V E mX8_findsArrangement _ 225 [(0, .ref 123), (1, .int (iI ((σ 124) 0))), (2, .int (iI (x54))), (3, .int (iI (x138))), (4, .int (iI ((i79 : Int)))), (5, .int (iI (x94.1))), (6, .int (iI (x138))), (7, .int (iI ((i225 : Int))))] [] sh (k_up (k_up (k_up σ 134 x9) 135 (x94.2)) 136 x225) _ _ ((fun t => (fun t => (k_pP sh R_findsArrangement) ((r_findsArrangement_79 σ x9 x54) (k_it (b_findsArrangement_79 σ x9 x54) n79 (i79 + 1) t))) ((r_findsArrangement_225 σ x9 x54 i79 x79 x94 x138) (k_it (b_findsArrangement_225 σ x9 x54 i79 x79 x94 x138) n225 (i225 + 1) t))) ((b_findsArrangement_225 σ x9 x54 i79 x79 x94 x138) i225 x225))
                unfold b_findsArrangement_225
                refine k_iload dX8_findsArrangement_225 7 rfl ?_
                refine k_iload_n dX8_findsArrangement_227 1 rfl rfl ?_
                refine k_icmp_ge (tgt := 251) dX8_findsArrangement_228 rfl ⟨by omega, by omega⟩ ⟨by omega, by omega⟩ (fun h15 => absurd h15 (by omega)) (fun h15 => ?_)
                refine k_aload_n dX8_findsArrangement_231 0 rfl rfl (by decide) ?_
                refine k_get (kf := 23) (v := .ref 136) dX8_findsArrangement_232 kcX8 w_1770 (by decide) (by decide) (s_123 hsh) rfl rfl ?_
                refine k_iload dX8_findsArrangement_235 7 rfl ?_
                refine k_aload_n dX8_findsArrangement_237 0 rfl rfl (by decide) ?_
                refine k_get (kf := 22) (v := .ref 135) dX8_findsArrangement_238 kcX8 w_1769 (by decide) (by decide) (s_123 hsh) rfl rfl ?_
                refine k_iload dX8_findsArrangement_241 7 rfl ?_
                refine k_iald dX8_findsArrangement_243 (by decide) (s_135 hsh) (by omega) (by omega) (by decide) ?_
                refine k_eqst (st' := [.int (iI ((x94.2) ((i225 : Int)).toNat)), .int (iI ((i225 : Int))), .ref 136]) rfl ?_
                have q16 := hW94_135 ((i225 : Int)).toNat
                refine k_iastW dX8_findsArrangement_244 (by decide) (s_136 hsh) (by omega) (by omega) (by decide) ?_
                refine k_eqσ (σ' := (k_up (k_up (k_up σ 134 x9) 135 (x94.2)) 136 (k_u1 x225 ((i225 : Int)).toNat ((x94.2) ((i225 : Int)).toNat)))) (show k_up (k_up (k_up (k_up σ 134 x9) 135 (x94.2)) 136 x225) 136 (k_u1 x225 ((i225 : Int)).toNat ((x94.2) ((i225 : Int)).toNat)) = _ from k_up_up).symm ?_
                refine k_iinc (ls' := [(0, .ref 123), (1, .int (iI ((σ 124) 0))), (2, .int (iI (x54))), (3, .int (iI (x138))), (4, .int (iI ((i79 : Int)))), (5, .int (iI (x94.1))), (6, .int (iI (x138))), (7, .int (iI ((i225 : Int) + 1)))]) dX8_findsArrangement_245 7 rfl (by decide) rfl rfl ?_
                refine k_goto (tgt := 225) dX8_findsArrangement_248 rfl ?_
                exact ih225 ((k_u1 x225 ((i225 : Int)).toNat ((x94.2) ((i225 : Int)).toNat))) (show (k_rg 0 3 (k_u1 x225 ((i225 : Int)).toNat ((x94.2) ((i225 : Int)).toNat))) from (show k_rg 0 3 (k_u1 x225 ((i225 : Int)).toNat ((x94.2) ((i225 : Int)).toNat)) from (k_rg_u hW225_136 (by omega))))
            · refine k_iff (F := (fun t => (k_pP sh R_findsArrangement) ((r_findsArrangement_79 σ x9 x54) (k_it (b_findsArrangement_79 σ x9 x54) n79 (i79 + 1) t)))) h12 ?_
              refine k_iload dX8_findsArrangement_210 6 rfl ?_
              refine k_iload_n dX8_findsArrangement_212 3 rfl rfl ?_
              refine k_icmp_lt (tgt := 219) dX8_findsArrangement_213 rfl ⟨by omega, by omega⟩ ⟨by omega, by omega⟩ (fun h17 => ?_) (fun h17 => ?_)
              · refine k_ift (F := (fun t => (k_pP sh R_findsArrangement) ((r_findsArrangement_79 σ x9 x54) (k_it (b_findsArrangement_79 σ x9 x54) n79 (i79 + 1) t)))) h17 ?_
                refine k_iload dX8_findsArrangement_219 6 rfl ?_
                refine k_istore_n (ls' := [(0, .ref 123), (1, .int (iI ((σ 124) 0))), (2, .int (iI (x54))), (3, .int (iI (x138))), (4, .int (iI ((i79 : Int)))), (5, .int (iI (x94.1))), (6, .int (iI (x138))), (7, .int (iI (((((σ 124) 0).toNat : Nat) : Int))))]) dX8_findsArrangement_221 rfl (by decide) rfl rfl ?_
                refine k_iconst (v := 0) dX8_findsArrangement_222 rfl ?_
                refine k_istore (ls' := [(0, .ref 123), (1, .int (iI ((σ 124) 0))), (2, .int (iI (x54))), (3, .int (iI (x138))), (4, .int (iI ((i79 : Int)))), (5, .int (iI (x94.1))), (6, .int (iI (x138))), (7, .int (iI (0)))]) dX8_findsArrangement_223 (by decide) rfl rfl ?_
                refine k_loop (α := (Nat → Int)) (P := fun (i225 : Nat) (x225 : (Nat → Int)) Q => k_V E mX8_findsArrangement _ 225 [(0, .ref 123), (1, .int (iI ((σ 124) 0))), (2, .int (iI (x54))), (3, .int (iI (x138))), (4, .int (iI ((i79 : Int)))), (5, .int (iI (x94.1))), (6, .int (iI (x138))), (7, .int (iI ((i225 : Int))))] [] sh (k_up (k_up (k_up σ 134 x9) 135 (x94.2)) 136 x225) _ _ Q) (J := fun (i225 : Nat) (x225 : (Nat → Int)) => (k_rg 0 3 x225)) (((σ 124) 0).toNat) (b_findsArrangement_225_2 σ x9 x54 i79 x79 x94 x138) ((x79.2.2)) (F := fun t => (fun t => (k_pP sh R_findsArrangement) ((r_findsArrangement_79 σ x9 x54) (k_it (b_findsArrangement_79 σ x9 x54) n79 (i79 + 1) t))) ((r_findsArrangement_225_2 σ x9 x54 i79 x79 x94 x138) t)) (show (k_rg 0 3 (x79.2.2)) from hW79_136) ?_ ?_
                · intro x225 hJ225
                  have hJ225 : (k_rg 0 3 x225) := hJ225
                  have hW225_136 := hJ225
                  show k_V E mX8_findsArrangement _ 225 [(0, .ref 123), (1, .int (iI ((σ 124) 0))), (2, .int (iI (x54))), (3, .int (iI (x138))), (4, .int (iI ((i79 : Int)))), (5, .int (iI (x94.1))), (6, .int (iI (x138))), (7, .int (iI (((((σ 124) 0).toNat : Nat) : Int))))] [] sh (k_up (k_up (k_up σ 134 x9) 135 (x94.2)) 136 x225) _ _ ((fun t => (k_pP sh R_findsArrangement) ((r_findsArrangement_79 σ x9 x54) (k_it (b_findsArrangement_79 σ x9 x54) n79 (i79 + 1) t))) ((r_findsArrangement_225_2 σ x9 x54 i79 x79 x94 x138) x225))
                  unfold r_findsArrangement_225_2
                  refine k_iload dX8_findsArrangement_225 7 rfl ?_
                  refine k_iload_n dX8_findsArrangement_227 1 rfl rfl ?_
                  refine k_icmp_ge (tgt := 251) dX8_findsArrangement_228 rfl ⟨by omega, by omega⟩ ⟨by omega, by omega⟩ (fun h19 => ?_) (fun h19 => absurd h19 (by omega))
                  refine k_iinc (ls' := [(0, .ref 123), (1, .int (iI ((σ 124) 0))), (2, .int (iI (x54))), (3, .int (iI (x138))), (4, .int (iI ((i79 : Int) + 1))), (5, .int (iI (x94.1))), (6, .int (iI (x138))), (7, .int (iI (((((σ 124) 0).toNat : Nat) : Int))))]) dX8_findsArrangement_251 4 rfl (by decide) rfl rfl ?_
                  refine k_goto (tgt := 79) dX8_findsArrangement_254 rfl ?_
                  refine k_dropr (ls' := [(0, .ref 123), (1, .int (iI ((σ 124) 0))), (2, .int (iI (x54))), (3, .int (iI (x138))), (4, .int (iI ((i79 : Int) + 1)))]) (ex := [(5, .int (iI (x94.1))), (6, .int (iI (x138))), (7, .int (iI (((((σ 124) 0).toNat : Nat) : Int))))]) rfl ?_
                  exact ih79 ((x138, (x94.2), x225)) (show (-1 ≤ x138 ∧ x138 ≤ 600) ∧ ((k_rg 0 3 (x94.2))) ∧ (k_rg 0 3 x225) from ⟨(by omega), hW94_135, hW225_136⟩)
                · intro n225 i225 x225 hi225 hJ225 ih225
                  have hJ225 : (k_rg 0 3 x225) := hJ225
                  have hW225_136 := hJ225
                  show k_V E mX8_findsArrangement _ 225 [(0, .ref 123), (1, .int (iI ((σ 124) 0))), (2, .int (iI (x54))), (3, .int (iI (x138))), (4, .int (iI ((i79 : Int)))), (5, .int (iI (x94.1))), (6, .int (iI (x138))), (7, .int (iI ((i225 : Int))))] [] sh (k_up (k_up (k_up σ 134 x9) 135 (x94.2)) 136 x225) _ _ ((fun t => (fun t => (k_pP sh R_findsArrangement) ((r_findsArrangement_79 σ x9 x54) (k_it (b_findsArrangement_79 σ x9 x54) n79 (i79 + 1) t))) ((r_findsArrangement_225_2 σ x9 x54 i79 x79 x94 x138) (k_it (b_findsArrangement_225_2 σ x9 x54 i79 x79 x94 x138) n225 (i225 + 1) t))) ((b_findsArrangement_225_2 σ x9 x54 i79 x79 x94 x138) i225 x225))
                  unfold b_findsArrangement_225_2
                  refine k_iload dX8_findsArrangement_225 7 rfl ?_
                  refine k_iload_n dX8_findsArrangement_227 1 rfl rfl ?_
                  refine k_icmp_ge (tgt := 251) dX8_findsArrangement_228 rfl ⟨by omega, by omega⟩ ⟨by omega, by omega⟩ (fun h20 => absurd h20 (by omega)) (fun h20 => ?_)
                  refine k_aload_n dX8_findsArrangement_231 0 rfl rfl (by decide) ?_
                  refine k_get (kf := 23) (v := .ref 136) dX8_findsArrangement_232 kcX8 w_1770 (by decide) (by decide) (s_123 hsh) rfl rfl ?_
                  refine k_iload dX8_findsArrangement_235 7 rfl ?_
                  refine k_aload_n dX8_findsArrangement_237 0 rfl rfl (by decide) ?_
                  refine k_get (kf := 22) (v := .ref 135) dX8_findsArrangement_238 kcX8 w_1769 (by decide) (by decide) (s_123 hsh) rfl rfl ?_
                  refine k_iload dX8_findsArrangement_241 7 rfl ?_
                  refine k_iald dX8_findsArrangement_243 (by decide) (s_135 hsh) (by omega) (by omega) (by decide) ?_
                  refine k_eqst (st' := [.int (iI ((x94.2) ((i225 : Int)).toNat)), .int (iI ((i225 : Int))), .ref 136]) rfl ?_
                  have q21 := hW94_135 ((i225 : Int)).toNat
                  refine k_iastW dX8_findsArrangement_244 (by decide) (s_136 hsh) (by omega) (by omega) (by decide) ?_
                  refine k_eqσ (σ' := (k_up (k_up (k_up σ 134 x9) 135 (x94.2)) 136 (k_u1 x225 ((i225 : Int)).toNat ((x94.2) ((i225 : Int)).toNat)))) (show k_up (k_up (k_up (k_up σ 134 x9) 135 (x94.2)) 136 x225) 136 (k_u1 x225 ((i225 : Int)).toNat ((x94.2) ((i225 : Int)).toNat)) = _ from k_up_up).symm ?_
                  refine k_iinc (ls' := [(0, .ref 123), (1, .int (iI ((σ 124) 0))), (2, .int (iI (x54))), (3, .int (iI (x138))), (4, .int (iI ((i79 : Int)))), (5, .int (iI (x94.1))), (6, .int (iI (x138))), (7, .int (iI ((i225 : Int) + 1)))]) dX8_findsArrangement_245 7 rfl (by decide) rfl rfl ?_
                  refine k_goto (tgt := 225) dX8_findsArrangement_248 rfl ?_
                  exact ih225 ((k_u1 x225 ((i225 : Int)).toNat ((x94.2) ((i225 : Int)).toNat))) (show (k_rg 0 3 (k_u1 x225 ((i225 : Int)).toNat ((x94.2) ((i225 : Int)).toNat))) from (show k_rg 0 3 (k_u1 x225 ((i225 : Int)).toNat ((x94.2) ((i225 : Int)).toNat)) from (k_rg_u hW225_136 (by omega))))
              · refine k_iff (F := (fun t => (k_pP sh R_findsArrangement) ((r_findsArrangement_79 σ x9 x54) (k_it (b_findsArrangement_79 σ x9 x54) n79 (i79 + 1) t)))) (Int.not_lt.mpr h17) ?_
                refine k_goto (tgt := 251) dX8_findsArrangement_216 rfl ?_
                refine k_iinc (ls' := [(0, .ref 123), (1, .int (iI ((σ 124) 0))), (2, .int (iI (x54))), (3, .int (iI (x79.1))), (4, .int (iI ((i79 : Int) + 1))), (5, .int (iI (x94.1))), (6, .int (iI (x138))), (7, .int (iI (((((σ 124) 0).toNat : Nat) : Int))))]) dX8_findsArrangement_251 4 rfl (by decide) rfl rfl ?_
                refine k_goto (tgt := 79) dX8_findsArrangement_254 rfl ?_
                refine k_dropr (ls' := [(0, .ref 123), (1, .int (iI ((σ 124) 0))), (2, .int (iI (x54))), (3, .int (iI (x79.1))), (4, .int (iI ((i79 : Int) + 1)))]) (ex := [(5, .int (iI (x94.1))), (6, .int (iI (x138))), (7, .int (iI (((((σ 124) 0).toNat : Nat) : Int))))]) rfl ?_
                exact ih79 ((x79.1, (x94.2), (x79.2.2))) (show (-1 ≤ x79.1 ∧ x79.1 ≤ 600) ∧ ((k_rg 0 3 (x94.2))) ∧ (k_rg 0 3 (x79.2.2)) from ⟨(by omega), hW94_135, hW79_136⟩)
          · intro n138 i138 x138 hi138 hJ138 ih138
            have hJ138 : 0 ≤ x138 ∧ x138 ≤ 84 * (i138 : Int) := hJ138
            have hU138 := hJ138
            show k_V E mX8_findsArrangement _ 138 [(0, .ref 123), (1, .int (iI ((σ 124) 0))), (2, .int (iI (x54))), (3, .int (iI (x79.1))), (4, .int (iI ((i79 : Int)))), (5, .int (iI (x94.1))), (6, .int (iI (x138))), (7, .int (iI ((i138 : Int))))] [] sh (k_up (k_up (k_up σ 134 x9) 135 (x94.2)) 136 (x79.2.2)) _ _ ((fun t => (fun t => (k_pP sh R_findsArrangement) ((r_findsArrangement_79 σ x9 x54) (k_it (b_findsArrangement_79 σ x9 x54) n79 (i79 + 1) t))) ((r_findsArrangement_138 σ x9 x54 i79 x79 x94) (k_it (b_findsArrangement_138 σ x9 x54 i79 x79 x94) n138 (i138 + 1) t))) ((b_findsArrangement_138 σ x9 x54 i79 x79 x94) i138 x138))
            unfold b_findsArrangement_138
            refine k_iload dX8_findsArrangement_138 7 rfl ?_
            refine k_iload_n dX8_findsArrangement_140 1 rfl rfl ?_
            refine k_icmp_ge (tgt := 205) dX8_findsArrangement_141 rfl ⟨by omega, by omega⟩ ⟨by omega, by omega⟩ (fun h22 => absurd h22 (by omega)) (fun h22 => ?_)
            refine k_iconst (v := 0) dX8_findsArrangement_144 rfl ?_
            refine k_istore (ls' := [(0, .ref 123), (1, .int (iI ((σ 124) 0))), (2, .int (iI (x54))), (3, .int (iI (x79.1))), (4, .int (iI ((i79 : Int)))), (5, .int (iI (x94.1))), (6, .int (iI (x138))), (7, .int (iI ((i138 : Int)))), (8, .int (iI (0)))]) dX8_findsArrangement_145 (by decide) rfl rfl ?_
            refine k_loop (α := Int) (P := fun (i147 : Nat) (x147 : Int) Q => k_V E mX8_findsArrangement _ 147 [(0, .ref 123), (1, .int (iI ((σ 124) 0))), (2, .int (iI (x54))), (3, .int (iI (x79.1))), (4, .int (iI ((i79 : Int)))), (5, .int (iI (x94.1))), (6, .int (iI (x147))), (7, .int (iI ((i138 : Int)))), (8, .int (iI ((i147 : Int))))] [] sh (k_up (k_up (k_up σ 134 x9) 135 (x94.2)) 136 (x79.2.2)) _ _ Q) (J := fun (i147 : Nat) (x147 : Int) => 0 ≤ x147 ∧ x147 ≤ 84 * (i138 : Int) + 12 * (i147 : Int)) (((i138 : Int)).toNat) (b_findsArrangement_147 σ x9 x54 i79 x79 x94 i138 x138) (x138) (F := fun t => (fun t => (fun t => (k_pP sh R_findsArrangement) ((r_findsArrangement_79 σ x9 x54) (k_it (b_findsArrangement_79 σ x9 x54) n79 (i79 + 1) t))) ((r_findsArrangement_138 σ x9 x54 i79 x79 x94) (k_it (b_findsArrangement_138 σ x9 x54 i79 x79 x94) n138 (i138 + 1) t))) ((r_findsArrangement_147 σ x9 x54 i79 x79 x94 i138 x138) t)) (show 0 ≤ x138 ∧ x138 ≤ 84 * (i138 : Int) + 12 * ((0 : Nat) : Int) from by omega) ?_ ?_
            · intro x147 hJ147
              have hJ147 : 0 ≤ x147 ∧ x147 ≤ 84 * (i138 : Int) + 12 * ((((i138 : Int)).toNat : Nat) : Int) := hJ147
              have hU147 := hJ147
              show k_V E mX8_findsArrangement _ 147 [(0, .ref 123), (1, .int (iI ((σ 124) 0))), (2, .int (iI (x54))), (3, .int (iI (x79.1))), (4, .int (iI ((i79 : Int)))), (5, .int (iI (x94.1))), (6, .int (iI (x147))), (7, .int (iI ((i138 : Int)))), (8, .int (iI (((((i138 : Int)).toNat : Nat) : Int))))] [] sh (k_up (k_up (k_up σ 134 x9) 135 (x94.2)) 136 (x79.2.2)) _ _ ((fun t => (fun t => (k_pP sh R_findsArrangement) ((r_findsArrangement_79 σ x9 x54) (k_it (b_findsArrangement_79 σ x9 x54) n79 (i79 + 1) t))) ((r_findsArrangement_138 σ x9 x54 i79 x79 x94) (k_it (b_findsArrangement_138 σ x9 x54 i79 x79 x94) n138 (i138 + 1) t))) ((r_findsArrangement_147 σ x9 x54 i79 x79 x94 i138 x138) x147))
              unfold r_findsArrangement_147
              refine k_iload dX8_findsArrangement_147 8 rfl ?_
              refine k_iload dX8_findsArrangement_149 7 rfl ?_
              refine k_icmp_ge (tgt := 199) dX8_findsArrangement_151 rfl ⟨by omega, by omega⟩ ⟨by omega, by omega⟩ (fun h24 => ?_) (fun h24 => absurd h24 (by omega))
              refine k_iinc (ls' := [(0, .ref 123), (1, .int (iI ((σ 124) 0))), (2, .int (iI (x54))), (3, .int (iI (x79.1))), (4, .int (iI ((i79 : Int)))), (5, .int (iI (x94.1))), (6, .int (iI (x147))), (7, .int (iI ((i138 : Int) + 1))), (8, .int (iI (((((i138 : Int)).toNat : Nat) : Int))))]) dX8_findsArrangement_199 7 rfl (by decide) rfl rfl ?_
              refine k_goto (tgt := 138) dX8_findsArrangement_202 rfl ?_
              refine k_dropr (ls' := [(0, .ref 123), (1, .int (iI ((σ 124) 0))), (2, .int (iI (x54))), (3, .int (iI (x79.1))), (4, .int (iI ((i79 : Int)))), (5, .int (iI (x94.1))), (6, .int (iI (x147))), (7, .int (iI ((i138 : Int) + 1)))]) (ex := [(8, .int (iI (((((i138 : Int)).toNat : Nat) : Int))))]) rfl ?_
              exact ih138 (x147) (show 0 ≤ x147 ∧ x147 ≤ 84 * ((i138 + 1 : Nat) : Int) from by omega)
            · intro n147 i147 x147 hi147 hJ147 ih147
              have hJ147 : 0 ≤ x147 ∧ x147 ≤ 84 * (i138 : Int) + 12 * (i147 : Int) := hJ147
              have hU147 := hJ147
              show k_V E mX8_findsArrangement _ 147 [(0, .ref 123), (1, .int (iI ((σ 124) 0))), (2, .int (iI (x54))), (3, .int (iI (x79.1))), (4, .int (iI ((i79 : Int)))), (5, .int (iI (x94.1))), (6, .int (iI (x147))), (7, .int (iI ((i138 : Int)))), (8, .int (iI ((i147 : Int))))] [] sh (k_up (k_up (k_up σ 134 x9) 135 (x94.2)) 136 (x79.2.2)) _ _ ((fun t => (fun t => (fun t => (k_pP sh R_findsArrangement) ((r_findsArrangement_79 σ x9 x54) (k_it (b_findsArrangement_79 σ x9 x54) n79 (i79 + 1) t))) ((r_findsArrangement_138 σ x9 x54 i79 x79 x94) (k_it (b_findsArrangement_138 σ x9 x54 i79 x79 x94) n138 (i138 + 1) t))) ((r_findsArrangement_147 σ x9 x54 i79 x79 x94 i138 x138) (k_it (b_findsArrangement_147 σ x9 x54 i79 x79 x94 i138 x138) n147 (i147 + 1) t))) ((b_findsArrangement_147 σ x9 x54 i79 x79 x94 i138 x138) i147 x147))
              unfold b_findsArrangement_147
              refine k_iload dX8_findsArrangement_147 8 rfl ?_
              refine k_iload dX8_findsArrangement_149 7 rfl ?_
              refine k_icmp_ge (tgt := 199) dX8_findsArrangement_151 rfl ⟨by omega, by omega⟩ ⟨by omega, by omega⟩ (fun h25 => absurd h25 (by omega)) (fun h25 => ?_)
              refine k_iload dX8_findsArrangement_154 6 rfl ?_
              refine k_aload_n dX8_findsArrangement_156 0 rfl rfl (by decide) ?_
              refine k_get (kf := 22) (v := .ref 135) dX8_findsArrangement_157 kcX8 w_1769 (by decide) (by decide) (s_123 hsh) rfl rfl ?_
              refine k_iload dX8_findsArrangement_160 7 rfl ?_
              refine k_iald dX8_findsArrangement_162 (by decide) (s_135 hsh) (by omega) (by omega) (by decide) ?_
              refine k_eqst (st' := [.int (iI ((x94.2) ((i138 : Int)).toNat)), .int (iI (x147))]) rfl ?_
              have q26 := hW94_135 ((i138 : Int)).toNat
              refine k_aload_n dX8_findsArrangement_163 0 rfl rfl (by decide) ?_
              refine k_get (kf := 22) (v := .ref 135) dX8_findsArrangement_164 kcX8 w_1769 (by decide) (by decide) (s_123 hsh) rfl rfl ?_
              refine k_iload dX8_findsArrangement_167 8 rfl ?_
              refine k_iald dX8_findsArrangement_169 (by decide) (s_135 hsh) (by omega) (by omega) (by decide) ?_
              refine k_eqst (st' := [.int (iI ((x94.2) ((i147 : Int)).toNat)), .int (iI ((x94.2) ((i138 : Int)).toNat)), .int (iI (x147))]) rfl ?_
              have q27 := hW94_135 ((i147 : Int)).toNat
              refine k_icmp_ne (tgt := 189) dX8_findsArrangement_170 rfl ⟨by omega, by omega⟩ ⟨by omega, by omega⟩ (fun h28 => ?_) (fun h28 => ?_)
              · refine k_iff (F := (fun t => (fun t => (fun t => (k_pP sh R_findsArrangement) ((r_findsArrangement_79 σ x9 x54) (k_it (b_findsArrangement_79 σ x9 x54) n79 (i79 + 1) t))) ((r_findsArrangement_138 σ x9 x54 i79 x79 x94) (k_it (b_findsArrangement_138 σ x9 x54 i79 x79 x94) n138 (i138 + 1) t))) ((r_findsArrangement_147 σ x9 x54 i79 x79 x94 i138 x138) (k_it (b_findsArrangement_147 σ x9 x54 i79 x79 x94 i138 x138) n147 (i147 + 1) t)))) h28 ?_
                refine k_iconst (v := 0) dX8_findsArrangement_189 rfl ?_
                refine k_iadd dX8_findsArrangement_190 ?_
                refine k_istore (ls' := [(0, .ref 123), (1, .int (iI ((σ 124) 0))), (2, .int (iI (x54))), (3, .int (iI (x79.1))), (4, .int (iI ((i79 : Int)))), (5, .int (iI (x94.1))), (6, .int (iI (x147 + 0))), (7, .int (iI ((i138 : Int)))), (8, .int (iI ((i147 : Int))))]) dX8_findsArrangement_191 (by decide) rfl rfl ?_
                refine k_iinc (ls' := [(0, .ref 123), (1, .int (iI ((σ 124) 0))), (2, .int (iI (x54))), (3, .int (iI (x79.1))), (4, .int (iI ((i79 : Int)))), (5, .int (iI (x94.1))), (6, .int (iI (x147 + 0))), (7, .int (iI ((i138 : Int)))), (8, .int (iI ((i147 : Int) + 1)))]) dX8_findsArrangement_193 8 rfl (by decide) rfl rfl ?_
                refine k_goto (tgt := 147) dX8_findsArrangement_196 rfl ?_
                exact ih147 (x147 + 0) (show 0 ≤ x147 + 0 ∧ x147 + 0 ≤ 84 * (i138 : Int) + 12 * ((i147 + 1 : Nat) : Int) from by omega)
              · refine k_ift (F := (fun t => (fun t => (fun t => (k_pP sh R_findsArrangement) ((r_findsArrangement_79 σ x9 x54) (k_it (b_findsArrangement_79 σ x9 x54) n79 (i79 + 1) t))) ((r_findsArrangement_138 σ x9 x54 i79 x79 x94) (k_it (b_findsArrangement_138 σ x9 x54 i79 x79 x94) n138 (i138 + 1) t))) ((r_findsArrangement_147 σ x9 x54 i79 x79 x94 i138 x138) (k_it (b_findsArrangement_147 σ x9 x54 i79 x79 x94 i138 x138) n147 (i147 + 1) t)))) h28 ?_
                refine k_aload_n dX8_findsArrangement_173 0 rfl rfl (by decide) ?_
                refine k_get (kf := 21) (v := .ref 134) dX8_findsArrangement_174 kcX8 w_1768 (by decide) (by decide) (s_123 hsh) rfl rfl ?_
                refine k_bipush (v := 7) dX8_findsArrangement_177 (by decide) ?_
                refine k_iload dX8_findsArrangement_179 7 rfl ?_
                refine k_imul dX8_findsArrangement_181 ?_
                refine k_iload dX8_findsArrangement_182 8 rfl ?_
                refine k_iadd dX8_findsArrangement_184 ?_
                refine k_iald dX8_findsArrangement_185 (by decide) (s_134 hsh) (by omega) (by omega) (by decide) ?_
                refine k_eqst (st' := [.int (iI (x9 ((7 * ((i138 : Int))) + ((i147 : Int))).toNat)), .int (iI (x147))]) rfl ?_
                have q29 := hW9_134 ((7 * ((i138 : Int))) + ((i147 : Int))).toNat
                refine k_goto (tgt := 190) dX8_findsArrangement_186 rfl ?_
                refine k_iadd dX8_findsArrangement_190 ?_
                refine k_istore (ls' := [(0, .ref 123), (1, .int (iI ((σ 124) 0))), (2, .int (iI (x54))), (3, .int (iI (x79.1))), (4, .int (iI ((i79 : Int)))), (5, .int (iI (x94.1))), (6, .int (iI (x147 + (x9 ((7 * ((i138 : Int))) + ((i147 : Int))).toNat)))), (7, .int (iI ((i138 : Int)))), (8, .int (iI ((i147 : Int))))]) dX8_findsArrangement_191 (by decide) rfl rfl ?_
                refine k_iinc (ls' := [(0, .ref 123), (1, .int (iI ((σ 124) 0))), (2, .int (iI (x54))), (3, .int (iI (x79.1))), (4, .int (iI ((i79 : Int)))), (5, .int (iI (x94.1))), (6, .int (iI (x147 + (x9 ((7 * ((i138 : Int))) + ((i147 : Int))).toNat)))), (7, .int (iI ((i138 : Int)))), (8, .int (iI ((i147 : Int) + 1)))]) dX8_findsArrangement_193 8 rfl (by decide) rfl rfl ?_
                refine k_goto (tgt := 147) dX8_findsArrangement_196 rfl ?_
                exact ih147 (x147 + (x9 ((7 * ((i138 : Int))) + ((i147 : Int))).toNat)) (show 0 ≤ x147 + (x9 ((7 * ((i138 : Int))) + ((i147 : Int))).toNat) ∧ x147 + (x9 ((7 * ((i138 : Int))) + ((i147 : Int))).toNat) ≤ 84 * (i138 : Int) + 12 * ((i147 + 1 : Nat) : Int) from by omega)
        · intro n94 i94 x94 hi94 hJ94 ih94
          have hJ94 : (0 ≤ x94.1 ∧ x94.1 ≤ 16384) ∧ (k_rg 0 3 x94.2) := hJ94
          obtain ⟨hU94, hW94_135⟩ := id hJ94
          show k_V E mX8_findsArrangement _ 94 [(0, .ref 123), (1, .int (iI ((σ 124) 0))), (2, .int (iI (x54))), (3, .int (iI (x79.1))), (4, .int (iI ((i79 : Int)))), (5, .int (iI (x94.1))), (6, .int (iI ((σ 124) 0 - 1 - (i94 : Int))))] [] sh (k_up (k_up (k_up σ 134 x9) 135 (x94.2)) 136 (x79.2.2)) _ _ ((fun t => (fun t => (k_pP sh R_findsArrangement) ((r_findsArrangement_79 σ x9 x54) (k_it (b_findsArrangement_79 σ x9 x54) n79 (i79 + 1) t))) ((r_findsArrangement_94 σ x9 x54 i79 x79) (k_it (b_findsArrangement_94 σ x9 x54 i79 x79) n94 (i94 + 1) t))) ((b_findsArrangement_94 σ x9 x54 i79 x79) i94 x94))
          unfold b_findsArrangement_94
          refine k_iload dX8_findsArrangement_94 6 rfl ?_
          refine k_if_lt (tgt := 132) dX8_findsArrangement_96 rfl ⟨by omega, by omega⟩ (fun h30 => absurd h30 (by omega)) (fun h30 => ?_)
          refine k_aload_n dX8_findsArrangement_99 0 rfl rfl (by decide) ?_
          refine k_get (kf := 22) (v := .ref 135) dX8_findsArrangement_100 kcX8 w_1769 (by decide) (by decide) (s_123 hsh) rfl rfl ?_
          refine k_iload dX8_findsArrangement_103 6 rfl ?_
          refine k_iload dX8_findsArrangement_105 5 rfl ?_
          refine k_aload_n dX8_findsArrangement_107 0 rfl rfl (by decide) ?_
          refine k_get (kf := 0) (v := .ref 124) dX8_findsArrangement_108 kcX8 w_1747 (by decide) (by decide) (s_123 hsh) rfl rfl ?_
          refine k_iconst (v := 1) dX8_findsArrangement_111 rfl ?_
          refine k_iald dX8_findsArrangement_112 (by decide) (s_124 hsh) (by omega) (by omega) (by decide) ?_
          refine k_eqst (st' := [.int (iI ((σ 124) 1)), .int (iI (x94.1)), .int (iI ((σ 124) 0 - 1 - (i94 : Int))), .ref 135]) rfl ?_
          refine k_irem (v := (iI ((x94.1) % ((σ 124) 1)))) dX8_findsArrangement_113 (z_ne0 (by omega) (by omega)) (z_remI (by omega) (by omega) (by omega) (by omega)) ?_
          have q31 := Int.emod_nonneg (x94.1) (show ((σ 124) 1) ≠ 0 by omega)
          have q32 := Int.emod_lt_of_pos (x94.1) (show 0 < ((σ 124) 1) by omega)
          refine k_iastW dX8_findsArrangement_114 (by decide) (s_135 hsh) (by omega) (by omega) (by decide) ?_
          refine k_eqσ (σ' := (k_up (k_up (k_up σ 134 x9) 135 (k_u1 (x94.2) ((σ 124) 0 - 1 - (i94 : Int)).toNat ((x94.1) % ((σ 124) 1)))) 136 (x79.2.2))) (show k_up (k_up (k_up (k_up σ 134 x9) 135 (x94.2)) 136 (x79.2.2)) 135 (k_u1 (x94.2) ((σ 124) 0 - 1 - (i94 : Int)).toNat ((x94.1) % ((σ 124) 1))) = _ from ((k_up_comm (by decide)).trans (congrArg (fun s => k_up s 136 _) k_up_up))).symm ?_
          refine k_iload dX8_findsArrangement_115 5 rfl ?_
          refine k_aload_n dX8_findsArrangement_117 0 rfl rfl (by decide) ?_
          refine k_get (kf := 0) (v := .ref 124) dX8_findsArrangement_118 kcX8 w_1747 (by decide) (by decide) (s_123 hsh) rfl rfl ?_
          refine k_iconst (v := 1) dX8_findsArrangement_121 rfl ?_
          refine k_iald dX8_findsArrangement_122 (by decide) (s_124 hsh) (by omega) (by omega) (by decide) ?_
          refine k_eqst (st' := [.int (iI ((σ 124) 1)), .int (iI (x94.1))]) rfl ?_
          refine k_idiv (v := (iI ((x94.1) / ((σ 124) 1)))) dX8_findsArrangement_123 (z_ne0 (by omega) (by omega)) (z_divI (by omega) (by omega) (by omega) (by omega)) ?_
          have q33 := Int.ediv_nonneg (a := x94.1) (b := (σ 124) 1) (by omega) (by omega)
          have q34 := Int.ediv_le_self ((σ 124) 1) (a := x94.1) (by omega)
          refine k_istore (ls' := [(0, .ref 123), (1, .int (iI ((σ 124) 0))), (2, .int (iI (x54))), (3, .int (iI (x79.1))), (4, .int (iI ((i79 : Int)))), (5, .int (iI ((x94.1) / ((σ 124) 1)))), (6, .int (iI ((σ 124) 0 - 1 - (i94 : Int))))]) dX8_findsArrangement_124 (by decide) rfl rfl ?_
          refine k_iinc (ls' := [(0, .ref 123), (1, .int (iI ((σ 124) 0))), (2, .int (iI (x54))), (3, .int (iI (x79.1))), (4, .int (iI ((i79 : Int)))), (5, .int (iI ((x94.1) / ((σ 124) 1)))), (6, .int (iI ((σ 124) 0 - 1 - (i94 : Int) + (-1))))]) dX8_findsArrangement_126 6 rfl (by decide) rfl rfl ?_
          refine k_goto (tgt := 94) dX8_findsArrangement_129 rfl ?_
          refine k_lrw (q := 6) (j := 6) (a' := (σ 124) 0 - 1 - ((i94 + 1 : Nat) : Int)) (ls' := [(0, .ref 123), (1, .int (iI ((σ 124) 0))), (2, .int (iI (x54))), (3, .int (iI (x79.1))), (4, .int (iI ((i79 : Int)))), (5, .int (iI ((x94.1) / ((σ 124) 1)))), (6, .int (iI ((σ 124) 0 - 1 - ((i94 + 1 : Nat) : Int))))]) rfl (by omega) rfl ?_
          exact ih94 (((x94.1) / ((σ 124) 1), (k_u1 (x94.2) ((σ 124) 0 - 1 - (i94 : Int)).toNat ((x94.1) % ((σ 124) 1))))) (show (0 ≤ (x94.1) / ((σ 124) 1) ∧ (x94.1) / ((σ 124) 1) ≤ 16384) ∧ (k_rg 0 3 (k_u1 (x94.2) ((σ 124) 0 - 1 - (i94 : Int)).toNat ((x94.1) % ((σ 124) 1)))) from ⟨(by omega), (show k_rg 0 3 (k_u1 (x94.2) ((σ 124) 0 - 1 - (i94 : Int)).toNat ((x94.1) % ((σ 124) 1))) from (k_rg_u hW94_135 (by omega)))⟩)
    · intro n54 i54 x54 hi54 hJ54 ih54
      have hJ54 : 1 ≤ x54 ∧ x54 ≤ 4 ^ (i54) := hJ54
      have hU54 := hJ54
      have p54 := z_pow7 (n := i54) (by omega)
      show k_V E mX8_findsArrangement _ 54 [(0, .ref 123), (1, .int (iI ((σ 124) 0))), (2, .int (iI (x54))), (3, .int (iI ((i54 : Int))))] [] sh (k_up σ 134 x9) _ _ ((fun t => (k_pP sh R_findsArrangement) ((r_findsArrangement_54 σ x9) (k_it (b_findsArrangement_54 σ x9) n54 (i54 + 1) t))) ((b_findsArrangement_54 σ x9) i54 x54))
      unfold b_findsArrangement_54
      refine k_iload_n dX8_findsArrangement_54 3 rfl rfl ?_
      refine k_iload_n dX8_findsArrangement_55 1 rfl rfl ?_
      refine k_icmp_ge (tgt := 74) dX8_findsArrangement_56 rfl ⟨by omega, by omega⟩ ⟨by omega, by omega⟩ (fun h35 => absurd h35 (by omega)) (fun h35 => ?_)
      refine k_iload_n dX8_findsArrangement_59 2 rfl rfl ?_
      refine k_aload_n dX8_findsArrangement_60 0 rfl rfl (by decide) ?_
      refine k_get (kf := 0) (v := .ref 124) dX8_findsArrangement_61 kcX8 w_1747 (by decide) (by decide) (s_123 hsh) rfl rfl ?_
      refine k_iconst (v := 1) dX8_findsArrangement_64 rfl ?_
      refine k_iald dX8_findsArrangement_65 (by decide) (s_124 hsh) (by omega) (by omega) (by decide) ?_
      refine k_eqst (st' := [.int (iI ((σ 124) 1)), .int (iI (x54))]) rfl ?_
      refine k_imul dX8_findsArrangement_66 ?_
      refine k_istore_n (ls' := [(0, .ref 123), (1, .int (iI ((σ 124) 0))), (2, .int (iI (x54 * ((σ 124) 1)))), (3, .int (iI ((i54 : Int))))]) dX8_findsArrangement_67 rfl (by decide) rfl rfl ?_
      refine k_iinc (ls' := [(0, .ref 123), (1, .int (iI ((σ 124) 0))), (2, .int (iI (x54 * ((σ 124) 1)))), (3, .int (iI ((i54 : Int) + 1)))]) dX8_findsArrangement_68 3 rfl (by decide) rfl rfl ?_
      refine k_goto (tgt := 54) dX8_findsArrangement_71 rfl ?_
      exact ih54 (x54 * ((σ 124) 1)) (show 1 ≤ x54 * ((σ 124) 1) ∧ x54 * ((σ 124) 1) ≤ 4 ^ (i54 + 1) from z_pow4 hU54 ⟨by omega, by omega⟩)
  · intro n9 i9 x9 hi9 hJ9 ih9
    have hJ9 : (k_rg 0 12 x9) := hJ9
    have hW9_134 := hJ9
    show k_V E mX8_findsArrangement _ 9 [(0, .ref 123), (1, .int (iI ((σ 124) 0))), (2, .int (iI ((i9 : Int))))] [] sh (k_up σ 134 x9) _ _ ((fun t => (k_pP sh R_findsArrangement) ((r_findsArrangement_9 σ) (k_it (b_findsArrangement_9 σ) n9 (i9 + 1) t))) ((b_findsArrangement_9 σ) i9 x9))
    unfold b_findsArrangement_9
    refine k_iload_n dX8_findsArrangement_9 2 rfl rfl ?_
    refine k_iload_n dX8_findsArrangement_10 1 rfl rfl ?_
    refine k_icmp_ge (tgt := 50) dX8_findsArrangement_11 rfl ⟨by omega, by omega⟩ ⟨by omega, by omega⟩ (fun h36 => absurd h36 (by omega)) (fun h36 => ?_)
    refine k_iconst (v := 0) dX8_findsArrangement_14 rfl ?_
    refine k_istore_n (ls' := [(0, .ref 123), (1, .int (iI ((σ 124) 0))), (2, .int (iI ((i9 : Int)))), (3, .int (iI (0)))]) dX8_findsArrangement_15 rfl (by decide) rfl rfl ?_
    refine k_loop (α := (Nat → Int)) (P := fun (i16 : Nat) (x16 : (Nat → Int)) Q => k_V E mX8_findsArrangement _ 16 [(0, .ref 123), (1, .int (iI ((σ 124) 0))), (2, .int (iI ((i9 : Int)))), (3, .int (iI ((i16 : Int))))] [] sh (k_up σ 134 x16) _ _ Q) (J := fun (i16 : Nat) (x16 : (Nat → Int)) => (k_rg 0 12 x16)) (((i9 : Int)).toNat) (b_findsArrangement_16 σ i9 x9) (x9) (F := fun t => (fun t => (k_pP sh R_findsArrangement) ((r_findsArrangement_9 σ) (k_it (b_findsArrangement_9 σ) n9 (i9 + 1) t))) ((r_findsArrangement_16 σ i9 x9) t)) (show (k_rg 0 12 x9) from hW9_134) ?_ ?_
    · intro x16 hJ16
      have hJ16 : (k_rg 0 12 x16) := hJ16
      have hW16_134 := hJ16
      show k_V E mX8_findsArrangement _ 16 [(0, .ref 123), (1, .int (iI ((σ 124) 0))), (2, .int (iI ((i9 : Int)))), (3, .int (iI (((((i9 : Int)).toNat : Nat) : Int))))] [] sh (k_up σ 134 x16) _ _ ((fun t => (k_pP sh R_findsArrangement) ((r_findsArrangement_9 σ) (k_it (b_findsArrangement_9 σ) n9 (i9 + 1) t))) ((r_findsArrangement_16 σ i9 x9) x16))
      unfold r_findsArrangement_16
      refine k_iload_n dX8_findsArrangement_16 3 rfl rfl ?_
      refine k_iload_n dX8_findsArrangement_17 2 rfl rfl ?_
      refine k_icmp_ge (tgt := 44) dX8_findsArrangement_18 rfl ⟨by omega, by omega⟩ ⟨by omega, by omega⟩ (fun h38 => ?_) (fun h38 => absurd h38 (by omega))
      refine k_iinc (ls' := [(0, .ref 123), (1, .int (iI ((σ 124) 0))), (2, .int (iI ((i9 : Int) + 1))), (3, .int (iI (((((i9 : Int)).toNat : Nat) : Int))))]) dX8_findsArrangement_44 2 rfl (by decide) rfl rfl ?_
      refine k_goto (tgt := 9) dX8_findsArrangement_47 rfl ?_
      refine k_dropr (ls' := [(0, .ref 123), (1, .int (iI ((σ 124) 0))), (2, .int (iI ((i9 : Int) + 1)))]) (ex := [(3, .int (iI (((((i9 : Int)).toNat : Nat) : Int))))]) rfl ?_
      exact ih9 (x16) (show (k_rg 0 12 x16) from hW16_134)
    · intro n16 i16 x16 hi16 hJ16 ih16
      have hJ16 : (k_rg 0 12 x16) := hJ16
      have hW16_134 := hJ16
      show k_V E mX8_findsArrangement _ 16 [(0, .ref 123), (1, .int (iI ((σ 124) 0))), (2, .int (iI ((i9 : Int)))), (3, .int (iI ((i16 : Int))))] [] sh (k_up σ 134 x16) _ _ ((fun t => (fun t => (k_pP sh R_findsArrangement) ((r_findsArrangement_9 σ) (k_it (b_findsArrangement_9 σ) n9 (i9 + 1) t))) ((r_findsArrangement_16 σ i9 x9) (k_it (b_findsArrangement_16 σ i9 x9) n16 (i16 + 1) t))) ((b_findsArrangement_16 σ i9 x9) i16 x16))
      unfold b_findsArrangement_16
      refine k_iload_n dX8_findsArrangement_16 3 rfl rfl ?_
      refine k_iload_n dX8_findsArrangement_17 2 rfl rfl ?_
      refine k_icmp_ge (tgt := 44) dX8_findsArrangement_18 rfl ⟨by omega, by omega⟩ ⟨by omega, by omega⟩ (fun h39 => absurd h39 (by omega)) (fun h39 => ?_)
      refine k_aload_n dX8_findsArrangement_21 0 rfl rfl (by decide) ?_
      refine k_get (kf := 21) (v := .ref 134) dX8_findsArrangement_22 kcX8 w_1768 (by decide) (by decide) (s_123 hsh) rfl rfl ?_
      refine k_bipush (v := 7) dX8_findsArrangement_25 (by decide) ?_
      refine k_iload_n dX8_findsArrangement_27 2 rfl rfl ?_
      refine k_imul dX8_findsArrangement_28 ?_
      refine k_iload_n dX8_findsArrangement_29 3 rfl rfl ?_
      refine k_iadd dX8_findsArrangement_30 ?_
      refine k_aload_n dX8_findsArrangement_31 0 rfl rfl (by decide) ?_
      refine k_iload_n dX8_findsArrangement_32 2 rfl rfl ?_
      refine k_iload_n dX8_findsArrangement_33 3 rfl rfl ?_
      refine k_callVrP (st := [.int (iI ((7 * ((i9 : Int))) + ((i16 : Int)))), .ref 134]) (as := [.int (iI ((i9 : Int))), .int (iI ((i16 : Int)))]) dX8_findsArrangement_34 oX8_common w_2196 w_2198 w_75 rfl (by omega) rfl (Nat.le_of_ble_eq_true rfl) (by decide) (s_123 hsh) rfl (c8_common (σ := (k_up σ 134 x16)) hsh (hMA).2.1 (by omega) (by omega)) (fun z40 => ?_)
      have z40 : 0 ≤ m_common (σ 124) (i9 : Int) (i16 : Int) ∧ m_common (σ 124) (i9 : Int) (i16 : Int) ≤ 12 := z40
      refine k_eqst (st' := [.int (iI (m_common (σ 124) (i9 : Int) (i16 : Int))), .int (iI ((7 * ((i9 : Int))) + ((i16 : Int)))), .ref 134]) rfl ?_
      refine k_iastW dX8_findsArrangement_37 (by decide) (s_134 hsh) (by omega) (by omega) (by decide) ?_
      refine k_eqσ (σ' := (k_up σ 134 (k_u1 x16 ((7 * ((i9 : Int))) + ((i16 : Int))).toNat (m_common (σ 124) (i9 : Int) (i16 : Int))))) (show k_up (k_up σ 134 x16) 134 (k_u1 x16 ((7 * ((i9 : Int))) + ((i16 : Int))).toNat (m_common (σ 124) (i9 : Int) (i16 : Int))) = _ from k_up_up).symm ?_
      refine k_iinc (ls' := [(0, .ref 123), (1, .int (iI ((σ 124) 0))), (2, .int (iI ((i9 : Int)))), (3, .int (iI ((i16 : Int) + 1)))]) dX8_findsArrangement_38 3 rfl (by decide) rfl rfl ?_
      refine k_goto (tgt := 16) dX8_findsArrangement_41 rfl ?_
      exact ih16 ((k_u1 x16 ((7 * ((i9 : Int))) + ((i16 : Int))).toNat (m_common (σ 124) (i9 : Int) (i16 : Int)))) (show (k_rg 0 12 (k_u1 x16 ((7 * ((i9 : Int))) + ((i16 : Int))).toNat (m_common (σ 124) (i9 : Int) (i16 : Int)))) from (show k_rg 0 12 (k_u1 x16 ((7 * ((i9 : Int))) + ((i16 : Int))).toNat (m_common (σ 124) (i9 : Int) (i16 : Int))) from (k_rg_u hW16_134 (by omega))))
abbrev R_arrangeNow (t : Int × (Nat → Nat → Int)) : Prop := (-1 ≤ t.1 ∧ t.1 ≤ 1000) ∧ k_MA t.2
def r_arrangeNow_39 (σ : Nat → Nat → Int) (x2 : Unit) (x39 : (Nat → Int)) : Int × (Nat → Nat → Int) := ((m_findsArrangement σ).1, (k_up (m_findsArrangement σ).2 124 x39))
def r_arrangeNow_51 (σ : Nat → Nat → Int) (x2 : Unit) (i39 : Nat) (x39 : (Nat → Int)) (x51 : (Nat → Int)) : (Nat → Int) := x51
def b_arrangeNow_51 (σ : Nat → Nat → Int) (x2 : Unit) (i39 : Nat) (x39 : (Nat → Int)) (i51 : Nat) (x51 : (Nat → Int)) : (Nat → Int) := if (((m_findsArrangement σ).2 136) ((i39 : Int)).toNat) = (i51 : Int) then (k_u1 x51 ((17 + (4 * ((i39 : Int)))) + ((i51 : Int))).toNat (1)) else (k_u1 x51 ((17 + (4 * ((i39 : Int)))) + ((i51 : Int))).toNat (0))
def b_arrangeNow_39 (σ : Nat → Nat → Int) (x2 : Unit) (i39 : Nat) (x39 : (Nat → Int)) : (Nat → Int) := (r_arrangeNow_51 σ x2 i39 x39) (k_it (b_arrangeNow_51 σ x2 i39 x39) (4) 0 (x39))
def r_arrangeNow_2 (σ : Nat → Nat → Int) (x2 : Unit) : Int × (Nat → Nat → Int) := (r_arrangeNow_39 σ x2) (k_it (b_arrangeNow_39 σ x2) ((((m_findsArrangement σ).2 124) 0).toNat) 0 (((m_findsArrangement σ).2 124)))
def b_arrangeNow_2 (σ : Nat → Nat → Int) (i2 : Nat) (x2 : Unit) : (Int × (Nat → Nat → Int)) ⊕ (Unit) := if (m_classesOf (σ 124) (i2 : Int)) ≤ 0 then .inr (()) else .inl ((0, (k_up σ 123 (k_u1 (σ 123) 8 (3)))))
def m_arrangeNow (σ : Nat → Nat → Int) : Int × (Nat → Nat → Int) := k_els (r_arrangeNow_2 σ) (k_for (b_arrangeNow_2 σ) (((σ 124) 2).toNat) 0 ())
set_option maxRecDepth 100000 in
set_option maxHeartbeats 4000000 in
theorem c8_arrangeNow (hsh : k_Main sh) (hMA : k_MA σ)  : k_C E mX8_arrangeNow 6 [.ref 123] sh σ 0 0 ((k_pP sh R_arrangeNow) (m_arrangeNow σ)) := by
  refine k_C_of (ls0 := [(0, .ref 123)]) rfl pnX8 (fun v hv => k_cat1 rfl hv) (Nat.le_of_ble_eq_true rfl) rfl ?_
  obtain ⟨⟨t0, t0b⟩, ⟨t1, t1b⟩, ⟨t2, t2b⟩, ⟨t3, t3b⟩, -⟩ := id hMA.2.1
  obtain ⟨⟨f19_0, g19_0⟩, ⟨f19_1, g19_1⟩, ⟨f19_2, g19_2⟩, ⟨f19_3, g19_3⟩, ⟨f19_4, g19_4⟩, ⟨f19_5, g19_5⟩, ⟨f19_6, g19_6⟩, ⟨f19_7, g19_7⟩, ⟨f19_8, g19_8⟩, ⟨f19_9, g19_9⟩, ⟨f19_10, g19_10⟩, ⟨f19_11, g19_11⟩, ⟨f19_12, g19_12⟩, ⟨f19_13, g19_13⟩⟩ := id hMA.1
  unfold m_arrangeNow
  refine k_iconst (v := 0) dX8_arrangeNow_0 rfl ?_
  refine k_istore_n (ls' := [(0, .ref 123), (1, .int (iI (0)))]) dX8_arrangeNow_1 rfl (by decide) rfl rfl ?_
  refine k_loopR (α := Unit) (P := fun (i2 : Nat) (x2 : Unit) Q => k_V E mX8_arrangeNow _ 2 [(0, .ref 123), (1, .int (iI ((i2 : Int))))] [] sh σ _ _ Q) (J := fun (i2 : Nat) (x2 : Unit) => True) (((σ 124) 2).toNat) (b_arrangeNow_2 σ) () (F := fun t => (k_pP sh R_arrangeNow) (k_els (r_arrangeNow_2 σ) t)) (show True from True.intro) ?_ ?_
  · intro x2 hJ2
    show k_V E mX8_arrangeNow _ 2 [(0, .ref 123), (1, .int (iI (((((σ 124) 2).toNat : Nat) : Int))))] [] sh σ _ _ ((k_pP sh R_arrangeNow) ((r_arrangeNow_2 σ) x2))
    unfold r_arrangeNow_2
    refine k_iload_n dX8_arrangeNow_2 1 rfl rfl ?_
    refine k_aload_n dX8_arrangeNow_3 0 rfl rfl (by decide) ?_
    refine k_get (kf := 0) (v := .ref 124) dX8_arrangeNow_4 kcX8 w_1747 (by decide) (by decide) (s_123 hsh) rfl rfl ?_
    refine k_iconst (v := 2) dX8_arrangeNow_7 rfl ?_
    refine k_iald dX8_arrangeNow_8 (by decide) (s_124 hsh) (by omega) (by omega) (by decide) ?_
    refine k_eqst (st' := [.int (iI ((σ 124) 2)), .int (iI (((((σ 124) 2).toNat : Nat) : Int)))]) rfl ?_
    refine k_icmp_ge (tgt := 32) dX8_arrangeNow_9 rfl ⟨by omega, by omega⟩ ⟨by omega, by omega⟩ (fun h2 => ?_) (fun h2 => absurd h2 (by omega))
    refine k_aload_n dX8_arrangeNow_32 0 rfl rfl (by decide) ?_
    refine k_callVrP (st := []) (as := []) dX8_arrangeNow_33 oX8_findsArrangement w_2216 w_2218 w_77 rfl (by omega) rfl (Nat.le_of_ble_eq_true rfl) (by decide) (s_123 hsh) rfl (c8_findsArrangement hsh (show k_MA σ from ⟨(hMA).1, (hMA).2.1, (hMA).2.2.1, (hMA).2.2.2.1, (hMA).2.2.2.2.1, (hMA).2.2.2.2.2.1, (hMA).2.2.2.2.2.2.1, (hMA).2.2.2.2.2.2.2.1, (hMA).2.2.2.2.2.2.2.2.1, (hMA).2.2.2.2.2.2.2.2.2.1, (hMA).2.2.2.2.2.2.2.2.2.2.1, (hMA).2.2.2.2.2.2.2.2.2.2.2.1, (hMA).2.2.2.2.2.2.2.2.2.2.2.2⟩)) (fun z3 => ?_)
    have z3 : (-1 ≤ (m_findsArrangement σ).1 ∧ (m_findsArrangement σ).1 ≤ 1000) ∧ k_MA (m_findsArrangement σ).2 := z3
    have z4 := z3.1
    obtain ⟨⟨y5_0, y5_0b⟩, ⟨y5_1, y5_1b⟩, ⟨y5_2, y5_2b⟩, ⟨y5_3, y5_3b⟩, -⟩ := id ((z3.2)).2.1
    obtain ⟨⟨f6_0, g6_0⟩, ⟨f6_1, g6_1⟩, ⟨f6_2, g6_2⟩, ⟨f6_3, g6_3⟩, ⟨f6_4, g6_4⟩, ⟨f6_5, g6_5⟩, ⟨f6_6, g6_6⟩, ⟨f6_7, g6_7⟩, ⟨f6_8, g6_8⟩, ⟨f6_9, g6_9⟩, ⟨f6_10, g6_10⟩, ⟨f6_11, g6_11⟩, ⟨f6_12, g6_12⟩, ⟨f6_13, g6_13⟩⟩ := id ((z3.2)).1
    refine k_istore_n (ls' := [(0, .ref 123), (1, .int (iI ((m_findsArrangement σ).1)))]) dX8_arrangeNow_36 rfl (by decide) rfl rfl ?_
    refine k_iconst (v := 0) dX8_arrangeNow_37 rfl ?_
    refine k_istore_n (ls' := [(0, .ref 123), (1, .int (iI ((m_findsArrangement σ).1))), (2, .int (iI (0)))]) dX8_arrangeNow_38 rfl (by decide) rfl rfl ?_
    refine k_eqσ (σ' := (k_up (m_findsArrangement σ).2 124 ((m_findsArrangement σ).2 124))) ((show k_up (m_findsArrangement σ).2 124 ((m_findsArrangement σ).2 124) = (k_up (m_findsArrangement σ).2 124 ((m_findsArrangement σ).2 124)) from rfl).symm.trans (k_up_self _ _)) ?_
    refine k_loop (α := (Nat → Int)) (P := fun (i39 : Nat) (x39 : (Nat → Int)) Q => k_V E mX8_arrangeNow _ 39 [(0, .ref 123), (1, .int (iI ((m_findsArrangement σ).1))), (2, .int (iI ((i39 : Int))))] [] sh (k_up (m_findsArrangement σ).2 124 x39) _ _ Q) (J := fun (i39 : Nat) (x39 : (Nat → Int)) => ((x39) 0 = ((m_findsArrangement σ).2 124) 0) ∧ (k_Mo x39)) ((((m_findsArrangement σ).2 124) 0).toNat) (b_arrangeNow_39 σ x2) (((m_findsArrangement σ).2 124)) (F := fun t => (k_pP sh R_arrangeNow) ((r_arrangeNow_39 σ x2) t)) (show ((((m_findsArrangement σ).2 124)) 0 = ((m_findsArrangement σ).2 124) 0) ∧ (k_Mo ((m_findsArrangement σ).2 124)) from ⟨rfl, ((z3.2)).2.1⟩) ?_ ?_
    · intro x39 hJ39
      have hJ39 : ((x39) 0 = ((m_findsArrangement σ).2 124) 0) ∧ (k_Mo x39) := hJ39
      obtain ⟨hU39, hW39_124⟩ := id hJ39
      show k_V E mX8_arrangeNow _ 39 [(0, .ref 123), (1, .int (iI ((m_findsArrangement σ).1))), (2, .int (iI ((((((m_findsArrangement σ).2 124) 0).toNat : Nat) : Int))))] [] sh (k_up (m_findsArrangement σ).2 124 x39) _ _ ((k_pP sh R_arrangeNow) ((r_arrangeNow_39 σ x2) x39))
      unfold r_arrangeNow_39
      refine k_iload_n dX8_arrangeNow_39 2 rfl rfl ?_
      refine k_aload_n dX8_arrangeNow_40 0 rfl rfl (by decide) ?_
      refine k_get (kf := 0) (v := .ref 124) dX8_arrangeNow_41 kcX8 w_1747 (by decide) (by decide) (s_123 hsh) rfl rfl ?_
      refine k_iconst (v := 0) dX8_arrangeNow_44 rfl ?_
      refine k_iald dX8_arrangeNow_45 (by decide) (s_124 hsh) (by omega) (by omega) (by decide) ?_
      refine k_eqst (st' := [.int (iI (x39 0)), .int (iI ((((((m_findsArrangement σ).2 124) 0).toNat : Nat) : Int)))]) rfl ?_
      refine k_icmp_ge (tgt := 96) dX8_arrangeNow_46 rfl ⟨by omega, by omega⟩ ⟨by omega, by omega⟩ (fun h8 => ?_) (fun h8 => absurd h8 (by omega))
      refine k_iload_n dX8_arrangeNow_96 1 rfl rfl ?_
      exact k_retiP dX8_arrangeNow_97 rfl rfl rfl (show (-1 ≤ (m_findsArrangement σ).1 ∧ (m_findsArrangement σ).1 ≤ 1000) ∧ k_MA (k_up (m_findsArrangement σ).2 124 x39) from ⟨by omega, ⟨((z3.2)).1, hW39_124, ((z3.2)).2.2.1, ((z3.2)).2.2.2.1, ((z3.2)).2.2.2.2.1, ((z3.2)).2.2.2.2.2.1, ((z3.2)).2.2.2.2.2.2.1, ((z3.2)).2.2.2.2.2.2.2.1, ((z3.2)).2.2.2.2.2.2.2.2.1, ((z3.2)).2.2.2.2.2.2.2.2.2.1, ((z3.2)).2.2.2.2.2.2.2.2.2.2.1, ((z3.2)).2.2.2.2.2.2.2.2.2.2.2.1, ((z3.2)).2.2.2.2.2.2.2.2.2.2.2.2⟩⟩)
    · intro n39 i39 x39 hi39 hJ39 ih39
      have hJ39 : ((x39) 0 = ((m_findsArrangement σ).2 124) 0) ∧ (k_Mo x39) := hJ39
      obtain ⟨hU39, hW39_124⟩ := id hJ39
      show k_V E mX8_arrangeNow _ 39 [(0, .ref 123), (1, .int (iI ((m_findsArrangement σ).1))), (2, .int (iI ((i39 : Int))))] [] sh (k_up (m_findsArrangement σ).2 124 x39) _ _ ((fun t => (k_pP sh R_arrangeNow) ((r_arrangeNow_39 σ x2) (k_it (b_arrangeNow_39 σ x2) n39 (i39 + 1) t))) ((b_arrangeNow_39 σ x2) i39 x39))
      unfold b_arrangeNow_39
      refine k_iload_n dX8_arrangeNow_39 2 rfl rfl ?_
      refine k_aload_n dX8_arrangeNow_40 0 rfl rfl (by decide) ?_
      refine k_get (kf := 0) (v := .ref 124) dX8_arrangeNow_41 kcX8 w_1747 (by decide) (by decide) (s_123 hsh) rfl rfl ?_
      refine k_iconst (v := 0) dX8_arrangeNow_44 rfl ?_
      refine k_iald dX8_arrangeNow_45 (by decide) (s_124 hsh) (by omega) (by omega) (by decide) ?_
      refine k_eqst (st' := [.int (iI (x39 0)), .int (iI ((i39 : Int)))]) rfl ?_
      refine k_icmp_ge (tgt := 96) dX8_arrangeNow_46 rfl ⟨by omega, by omega⟩ ⟨by omega, by omega⟩ (fun h9 => absurd h9 (by omega)) (fun h9 => ?_)
      refine k_iconst (v := 0) dX8_arrangeNow_49 rfl ?_
      refine k_istore_n (ls' := [(0, .ref 123), (1, .int (iI ((m_findsArrangement σ).1))), (2, .int (iI ((i39 : Int)))), (3, .int (iI (0)))]) dX8_arrangeNow_50 rfl (by decide) rfl rfl ?_
      refine k_loop (α := (Nat → Int)) (P := fun (i51 : Nat) (x51 : (Nat → Int)) Q => k_V E mX8_arrangeNow _ 51 [(0, .ref 123), (1, .int (iI ((m_findsArrangement σ).1))), (2, .int (iI ((i39 : Int)))), (3, .int (iI ((i51 : Int))))] [] sh (k_up (m_findsArrangement σ).2 124 x51) _ _ Q) (J := fun (i51 : Nat) (x51 : (Nat → Int)) => ((x51) 0 = ((m_findsArrangement σ).2 124) 0) ∧ (k_Mo x51)) (4) (b_arrangeNow_51 σ x2 i39 x39) (x39) (F := fun t => (fun t => (k_pP sh R_arrangeNow) ((r_arrangeNow_39 σ x2) (k_it (b_arrangeNow_39 σ x2) n39 (i39 + 1) t))) ((r_arrangeNow_51 σ x2 i39 x39) t)) (show ((x39) 0 = ((m_findsArrangement σ).2 124) 0) ∧ (k_Mo x39) from ⟨hU39, hW39_124⟩) ?_ ?_
      · intro x51 hJ51
        have hJ51 : ((x51) 0 = ((m_findsArrangement σ).2 124) 0) ∧ (k_Mo x51) := hJ51
        obtain ⟨hU51, hW51_124⟩ := id hJ51
        show k_V E mX8_arrangeNow _ 51 [(0, .ref 123), (1, .int (iI ((m_findsArrangement σ).1))), (2, .int (iI ((i39 : Int)))), (3, .int (iI (((4 : Nat) : Int))))] [] sh (k_up (m_findsArrangement σ).2 124 x51) _ _ ((fun t => (k_pP sh R_arrangeNow) ((r_arrangeNow_39 σ x2) (k_it (b_arrangeNow_39 σ x2) n39 (i39 + 1) t))) ((r_arrangeNow_51 σ x2 i39 x39) x51))
        unfold r_arrangeNow_51
        refine k_iload_n dX8_arrangeNow_51 3 rfl rfl ?_
        refine k_iconst (v := 4) dX8_arrangeNow_52 rfl ?_
        refine k_icmp_ge (tgt := 90) dX8_arrangeNow_53 rfl ⟨by omega, by omega⟩ ⟨by decide, by decide⟩ (fun h11 => ?_) (fun h11 => absurd h11 (by omega))
        refine k_iinc (ls' := [(0, .ref 123), (1, .int (iI ((m_findsArrangement σ).1))), (2, .int (iI ((i39 : Int) + 1))), (3, .int (iI (((4 : Nat) : Int))))]) dX8_arrangeNow_90 2 rfl (by decide) rfl rfl ?_
        refine k_goto (tgt := 39) dX8_arrangeNow_93 rfl ?_
        refine k_dropr (ls' := [(0, .ref 123), (1, .int (iI ((m_findsArrangement σ).1))), (2, .int (iI ((i39 : Int) + 1)))]) (ex := [(3, .int (iI (((4 : Nat) : Int))))]) rfl ?_
        exact ih39 (x51) (show ((x51) 0 = ((m_findsArrangement σ).2 124) 0) ∧ (k_Mo x51) from ⟨hU51, hW51_124⟩)
      · intro n51 i51 x51 hi51 hJ51 ih51
        have hJ51 : ((x51) 0 = ((m_findsArrangement σ).2 124) 0) ∧ (k_Mo x51) := hJ51
        obtain ⟨hU51, hW51_124⟩ := id hJ51
        show k_V E mX8_arrangeNow _ 51 [(0, .ref 123), (1, .int (iI ((m_findsArrangement σ).1))), (2, .int (iI ((i39 : Int)))), (3, .int (iI ((i51 : Int))))] [] sh (k_up (m_findsArrangement σ).2 124 x51) _ _ ((fun t => (fun t => (k_pP sh R_arrangeNow) ((r_arrangeNow_39 σ x2) (k_it (b_arrangeNow_39 σ x2) n39 (i39 + 1) t))) ((r_arrangeNow_51 σ x2 i39 x39) (k_it (b_arrangeNow_51 σ x2 i39 x39) n51 (i51 + 1) t))) ((b_arrangeNow_51 σ x2 i39 x39) i51 x51))
        unfold b_arrangeNow_51
        refine k_iload_n dX8_arrangeNow_51 3 rfl rfl ?_
        refine k_iconst (v := 4) dX8_arrangeNow_52 rfl ?_
        refine k_icmp_ge (tgt := 90) dX8_arrangeNow_53 rfl ⟨by omega, by omega⟩ ⟨by decide, by decide⟩ (fun h12 => absurd h12 (by omega)) (fun h12 => ?_)
        refine k_aload_n dX8_arrangeNow_56 0 rfl rfl (by decide) ?_
        refine k_get (kf := 0) (v := .ref 124) dX8_arrangeNow_57 kcX8 w_1747 (by decide) (by decide) (s_123 hsh) rfl rfl ?_
        refine k_bipush (v := 17) dX8_arrangeNow_60 (by decide) ?_
        refine k_iconst (v := 4) dX8_arrangeNow_62 rfl ?_
        refine k_iload_n dX8_arrangeNow_63 2 rfl rfl ?_
        refine k_imul dX8_arrangeNow_64 ?_
        refine k_iadd dX8_arrangeNow_65 ?_
        refine k_iload_n dX8_arrangeNow_66 3 rfl rfl ?_
        refine k_iadd dX8_arrangeNow_67 ?_
        refine k_aload_n dX8_arrangeNow_68 0 rfl rfl (by decide) ?_
        refine k_get (kf := 23) (v := .ref 136) dX8_arrangeNow_69 kcX8 w_1770 (by decide) (by decide) (s_123 hsh) rfl rfl ?_
        refine k_iload_n dX8_arrangeNow_72 2 rfl rfl ?_
        refine k_iald dX8_arrangeNow_73 (by decide) (s_136 hsh) (by omega) (by omega) (by decide) ?_
        refine k_eqst (st' := [.int (iI (((m_findsArrangement σ).2 136) ((i39 : Int)).toNat)), .int (iI ((17 + (4 * ((i39 : Int)))) + ((i51 : Int)))), .ref 124]) rfl ?_
        have q13 := ((z3.2)).2.2.2.2.2.2.2.2.2.1 ((i39 : Int)).toNat
        refine k_iload_n dX8_arrangeNow_74 3 rfl rfl ?_
        refine k_icmp_ne (tgt := 82) dX8_arrangeNow_75 rfl ⟨by omega, by omega⟩ ⟨by omega, by omega⟩ (fun h14 => ?_) (fun h14 => ?_)
        · refine k_iff (F := (fun t => (fun t => (k_pP sh R_arrangeNow) ((r_arrangeNow_39 σ x2) (k_it (b_arrangeNow_39 σ x2) n39 (i39 + 1) t))) ((r_arrangeNow_51 σ x2 i39 x39) (k_it (b_arrangeNow_51 σ x2 i39 x39) n51 (i51 + 1) t)))) h14 ?_
          refine k_iconst (v := 0) dX8_arrangeNow_82 rfl ?_
          refine k_iastW dX8_arrangeNow_83 (by decide) (s_124 hsh) (by omega) (by omega) (by decide) ?_
          refine k_eqσ (σ' := (k_up (m_findsArrangement σ).2 124 (k_u1 x51 ((17 + (4 * ((i39 : Int)))) + ((i51 : Int))).toNat (0)))) (show k_up (k_up (m_findsArrangement σ).2 124 x51) 124 (k_u1 x51 ((17 + (4 * ((i39 : Int)))) + ((i51 : Int))).toNat (0)) = _ from k_up_up).symm ?_
          refine k_iinc (ls' := [(0, .ref 123), (1, .int (iI ((m_findsArrangement σ).1))), (2, .int (iI ((i39 : Int)))), (3, .int (iI ((i51 : Int) + 1)))]) dX8_arrangeNow_84 3 rfl (by decide) rfl rfl ?_
          refine k_goto (tgt := 51) dX8_arrangeNow_87 rfl ?_
          exact ih51 ((k_u1 x51 ((17 + (4 * ((i39 : Int)))) + ((i51 : Int))).toNat (0))) (show (((k_u1 x51 ((17 + (4 * ((i39 : Int)))) + ((i51 : Int))).toNat (0))) 0 = ((m_findsArrangement σ).2 124) 0) ∧ (k_Mo (k_u1 x51 ((17 + (4 * ((i39 : Int)))) + ((i51 : Int))).toNat (0))) from ⟨(if_neg (by omega)).trans hU51, (show k_Mo (k_u1 x51 ((17 + (4 * ((i39 : Int)))) + ((i51 : Int))).toNat (0)) from (k_Mo_u hW51_124 (by omega)))⟩)
        · refine k_ift (F := (fun t => (fun t => (k_pP sh R_arrangeNow) ((r_arrangeNow_39 σ x2) (k_it (b_arrangeNow_39 σ x2) n39 (i39 + 1) t))) ((r_arrangeNow_51 σ x2 i39 x39) (k_it (b_arrangeNow_51 σ x2 i39 x39) n51 (i51 + 1) t)))) h14 ?_
          refine k_iconst (v := 1) dX8_arrangeNow_78 rfl ?_
          refine k_goto (tgt := 83) dX8_arrangeNow_79 rfl ?_
          refine k_iastW dX8_arrangeNow_83 (by decide) (s_124 hsh) (by omega) (by omega) (by decide) ?_
          refine k_eqσ (σ' := (k_up (m_findsArrangement σ).2 124 (k_u1 x51 ((17 + (4 * ((i39 : Int)))) + ((i51 : Int))).toNat (1)))) (show k_up (k_up (m_findsArrangement σ).2 124 x51) 124 (k_u1 x51 ((17 + (4 * ((i39 : Int)))) + ((i51 : Int))).toNat (1)) = _ from k_up_up).symm ?_
          refine k_iinc (ls' := [(0, .ref 123), (1, .int (iI ((m_findsArrangement σ).1))), (2, .int (iI ((i39 : Int)))), (3, .int (iI ((i51 : Int) + 1)))]) dX8_arrangeNow_84 3 rfl (by decide) rfl rfl ?_
          refine k_goto (tgt := 51) dX8_arrangeNow_87 rfl ?_
          exact ih51 ((k_u1 x51 ((17 + (4 * ((i39 : Int)))) + ((i51 : Int))).toNat (1))) (show (((k_u1 x51 ((17 + (4 * ((i39 : Int)))) + ((i51 : Int))).toNat (1))) 0 = ((m_findsArrangement σ).2 124) 0) ∧ (k_Mo (k_u1 x51 ((17 + (4 * ((i39 : Int)))) + ((i51 : Int))).toNat (1))) from ⟨(if_neg (by omega)).trans hU51, (show k_Mo (k_u1 x51 ((17 + (4 * ((i39 : Int)))) + ((i51 : Int))).toNat (1)) from (k_Mo_u hW51_124 (by omega)))⟩)
  · intro n2 i2 x2 hi2 hJ2 ih2
    show k_V E mX8_arrangeNow _ 2 [(0, .ref 123), (1, .int (iI ((i2 : Int))))] [] sh σ _ _ ((fun t => (k_pP sh R_arrangeNow) (k_els (r_arrangeNow_2 σ) (k_cn2 (k_for (b_arrangeNow_2 σ) n2 (i2 + 1)) t))) ((b_arrangeNow_2 σ) i2 x2))
    unfold b_arrangeNow_2
    refine k_iload_n dX8_arrangeNow_2 1 rfl rfl ?_
    refine k_aload_n dX8_arrangeNow_3 0 rfl rfl (by decide) ?_
    refine k_get (kf := 0) (v := .ref 124) dX8_arrangeNow_4 kcX8 w_1747 (by decide) (by decide) (s_123 hsh) rfl rfl ?_
    refine k_iconst (v := 2) dX8_arrangeNow_7 rfl ?_
    refine k_iald dX8_arrangeNow_8 (by decide) (s_124 hsh) (by omega) (by omega) (by decide) ?_
    refine k_eqst (st' := [.int (iI ((σ 124) 2)), .int (iI ((i2 : Int)))]) rfl ?_
    refine k_icmp_ge (tgt := 32) dX8_arrangeNow_9 rfl ⟨by omega, by omega⟩ ⟨by omega, by omega⟩ (fun h15 => absurd h15 (by omega)) (fun h15 => ?_)
    refine k_aload_n dX8_arrangeNow_12 0 rfl rfl (by decide) ?_
    refine k_iload_n dX8_arrangeNow_13 1 rfl rfl ?_
    refine k_callVrP (st := []) (as := [.int (iI ((i2 : Int)))]) dX8_arrangeNow_14 oX8_classesOf w_2044 w_2046 w_55 rfl (by omega) rfl (Nat.le_of_ble_eq_true rfl) (by decide) (s_123 hsh) rfl (c8_classesOf hsh (hMA).2.1 (by omega)) (fun z16 => ?_)
    have z16 : 0 ≤ m_classesOf (σ 124) (i2 : Int) ∧ m_classesOf (σ 124) (i2 : Int) ≤ 4 := z16
    refine k_if_le (tgt := 26) dX8_arrangeNow_17 rfl ⟨by omega, by omega⟩ (fun h17 => ?_) (fun h17 => ?_)
    · refine k_ift (F := (fun t => (k_pP sh R_arrangeNow) (k_els (r_arrangeNow_2 σ) (k_cn2 (k_for (b_arrangeNow_2 σ) n2 (i2 + 1)) t)))) h17 ?_
      refine k_iinc (ls' := [(0, .ref 123), (1, .int (iI ((i2 : Int) + 1)))]) dX8_arrangeNow_26 1 rfl (by decide) rfl rfl ?_
      refine k_goto (tgt := 2) dX8_arrangeNow_29 rfl ?_
      exact ih2 (()) (show True from True.intro)
    · refine k_iff (F := (fun t => (k_pP sh R_arrangeNow) (k_els (r_arrangeNow_2 σ) (k_cn2 (k_for (b_arrangeNow_2 σ) n2 (i2 + 1)) t)))) (Int.not_le.mpr h17) ?_
      refine k_aload_n dX8_arrangeNow_20 0 rfl rfl (by decide) ?_
      refine k_iconst (v := 3) dX8_arrangeNow_21 rfl ?_
      refine k_callVr (st := []) (as := [.int (iI (3))]) dX8_arrangeNow_22 oX8_bad w_1884 w_1886 w_35 rfl (by omega) rfl (Nat.le_of_ble_eq_true rfl) (by decide) (s_123 hsh) rfl (c8_bad hsh) ?_
      refine k_eqσ (σ' := (k_up σ 123 (k_u1 (σ 123) 8 (3)))) ((show k_up σ 123 (k_u1 (σ 123) 8 (3)) = (k_up σ 123 (k_u1 (σ 123) 8 (3))) from rfl)).symm ?_
      exact k_retiP dX8_arrangeNow_25 rfl rfl rfl (show (-1 ≤ (0 : Int) ∧ (0 : Int) ≤ 1000) ∧ k_MA (k_up σ 123 (k_u1 (σ 123) 8 (3))) from ⟨by omega, ⟨(show k_F0 (k_u1 (σ 123) 8 (3)) from (k_F0_u (hMA).1 (by omega))), (hMA).2.1, (hMA).2.2.1, (hMA).2.2.2.1, (hMA).2.2.2.2.1, (hMA).2.2.2.2.2.1, (hMA).2.2.2.2.2.2.1, (hMA).2.2.2.2.2.2.2.1, (hMA).2.2.2.2.2.2.2.2.1, (hMA).2.2.2.2.2.2.2.2.2.1, (hMA).2.2.2.2.2.2.2.2.2.2.1, (hMA).2.2.2.2.2.2.2.2.2.2.2.1, (hMA).2.2.2.2.2.2.2.2.2.2.2.2⟩⟩)
end K_M3
