/-! ===== PLACEMENTS ===== -/
section K_N
variable {E : k_E} {sh : List k_Sh} {σ : Nat → Nat → Int}
theorem k_Ty_up {a : Nat} {f : Nat → Int} (ha : 10 ≤ a) (hI : k_Ty σ) : k_Ty (k_up σ a f) := by
  unfold k_Ty at hI ⊢
  rw [k_up_ne (by omega), k_up_ne (by omega), k_up_ne (by omega), k_up_ne (by omega), k_up_ne (by omega), k_up_ne (by omega), k_up_ne (by omega), k_up_ne (by omega), k_up_ne (by omega)]
  exact hI
/-- the plan is as it was -/
def k_PlEq (τ σ : Nat → Nat → Int) : Prop := ∀ i, i < 10 → τ i = σ i
theorem k_PlEq.ty {τ : Nat → Nat → Int} (h : k_PlEq τ σ) (hI : k_Ty σ) : k_Ty τ := by
  unfold k_Ty at hI ⊢
  rw [h 1 (by decide), h 2 (by decide), h 3 (by decide), h 4 (by decide), h 5 (by decide), h 6 (by decide), h 7 (by decide), h 8 (by decide), h 9 (by decide)]
  exact hI
theorem k_PlEq.wish {τ : Nat → Nat → Int} (h : k_PlEq τ σ) (p r : Int) : f_wish τ p r = f_wish σ p r := by unfold f_wish; rw [h 6 (by decide)]
theorem k_PlEq.roster {τ : Nat → Nat → Int} (h : k_PlEq τ σ) (s b : Int) : f_roster τ s b = f_roster σ s b := by unfold f_roster; rw [h 4 (by decide)]
theorem k_PlEq.opn {τ : Nat → Nat → Int} (h : k_PlEq τ σ) (s : Int) : f_open τ s = f_open σ s := by unfold f_open; rw [h 1 (by decide), h 3 (by decide)]
theorem k_PlEq.roomy {τ : Nat → Nat → Int} (h : k_PlEq τ σ) (s x : Int) : f_roomy τ s x = f_roomy σ s x := by
  unfold f_roomy f_roomyN
  simp only [h.opn, h.roster]
  rw [h 1 (by decide), h 2 (by decide)]
theorem k_PlEq.busy {τ : Nat → Nat → Int} (h : k_PlEq τ σ) (b : Int) : f_busy τ b = f_busy σ b := by
  unfold f_busy f_busyN
  simp only [h.roster]
  rw [h 1 (by decide)]
theorem k_PlEq.wishSet {τ : Nat → Nat → Int} (h : k_PlEq τ σ) (p : Int) : f_wishSet τ p = f_wishSet σ p := by
  unfold f_wishSet f_wishSetN
  rw [h 5 (by decide), h 6 (by decide)]
theorem k_PlEq.refl : k_PlEq σ σ := fun _ _ => rfl
theorem k_PlEq.up {τ : Nat → Nat → Int} {a : Nat} {f : Nat → Int} (h : k_PlEq τ σ) (ha : 10 ≤ a) : k_PlEq (k_up τ a f) σ := fun i hi => (k_up_ne (by omega)).trans (h i hi)
/-- what a wish's part may use: blocks with room, the pupil not counted -/
def f_useR (σ : Nat → Nat → Int) (p : Int) (r : Nat) : Int := if (r : Int) < σ 5 p.toNat then f_roomy σ (f_wish σ p (r : Int)) (z_one p) else 0
def f_useRN (σ : Nat → Nat → Int) (p : Int) (n : Nat) : Nat → Int := k_fold n (fun r g => k_u1 g r (f_useR σ p r)) (σ 11)
def f_fullN (σ : Nat → Nat → Int) (p : Int) (n : Nat) : Int := k_fold n (fun r a => a + (if (r : Int) < σ 5 p.toNat then z_one (3 - (r : Int)) else 0)) 0
def u_roomyN (σ : Nat → Nat → Int) (p : Int) (n : Nat) : Nat → Nat → Int := k_up (k_up σ 10 (k_u1 (σ 10) 4 (f_fullN σ p n))) 11 (f_useRN σ p n)
def u_roomy (σ : Nat → Nat → Int) (p : Int) : Nat → Nat → Int := k_up (k_up σ 10 (k_u1 (σ 10) 4 (f_fullN σ p 3))) 11 (k_u1 (f_useRN σ p 3) 3 (f_roomy σ (σ 7 p.toNat) (z_one p)))
def u_open (σ : Nat → Nat → Int) (p : Int) (n : Nat) : Nat → Nat → Int := k_up σ 11 (k_fold n (fun r g => k_u1 g r (if (r : Int) < σ 5 p.toNat then f_open σ (f_wish σ p (r : Int)) else 0)) (σ 11))
theorem f_fullN_r (σ : Nat → Nat → Int) (p : Int) : ∀ n : Nat, n ≤ 3 → 0 ≤ f_fullN σ p n ∧ f_fullN σ p n ≤ 8 * n
  | 0, _ => ⟨Int.le_refl 0, Int.le_refl 0⟩
  | n + 1, h => by
    have ih := f_fullN_r σ p n (by omega)
    have h2 : z_one (3 - (n : Int)) < ((2 ^ 4 : Nat) : Int) := z_one_lt 4 (by omega) (by omega)
    have h3 := z_one_pos (3 - (n : Int))
    have h4 : z_one (3 - (n : Int)) ≤ 8 := by
      have : n = 0 ∨ n = 1 ∨ n = 2 := by omega
      rcases this with rfl | rfl | rfl <;> decide
    have e : f_fullN σ p (n + 1) = f_fullN σ p n + (if (n : Int) < σ 5 p.toNat then z_one (3 - (n : Int)) else 0) := rfl
    rw [e]
    split <;> omega
theorem u_roomyN_pl (p : Int) (n : Nat) : k_PlEq (u_roomyN σ p n) σ := (k_PlEq.refl.up (by decide)).up (by decide)
theorem f_roomy_r (σ : Nat → Nat → Int) (hI : k_Ty σ) (s x : Int) : 0 ≤ f_roomy σ s x ∧ f_roomy σ s x < 16 := f_roomyN_r σ s x _ (by have := hI.2.1; omega)
theorem f_useR_r (hI : k_Ty σ) (p : Int) (r : Nat) : 0 ≤ f_useR σ p r ∧ f_useR σ p r < 16 := by
  unfold f_useR
  split
  · exact f_roomy_r σ hI _ _
  · decide
set_option maxHeartbeats 4000000 in
theorem c_scoreOf {x : Int} (hx : -2147483648 ≤ x ∧ x < 2147483648) (hx0 : 0 ≤ x ∧ x ≤ 3) : k_C E mX4_scoreOf 1 [.int (iI (x))] sh σ 0 0 (k_ret (some (.int (iI (z_one (3 - x))))) sh σ) := by
  refine k_C_of (ls0 := [(0, .int (iI (x)))]) rfl pnX4 (fun v hv => k_cat1 rfl hv) (Nat.le_of_ble_eq_true rfl) rfl ?_
  refine k_iconst (v := 1) dX4_scoreOf_0 rfl ?_
  refine k_iconst (v := 3) dX4_scoreOf_1 rfl ?_
  refine k_iload_n dX4_scoreOf_2 0 rfl rfl ?_
  refine k_isub dX4_scoreOf_3 ?_
  refine k_ishl (v := (iI (z_one (3 - x)))) dX4_scoreOf_4 (z_oneI (by omega) (by omega)) ?_
  exact k_reti dX4_scoreOf_5 rfl rfl (by rfl)
set_option maxHeartbeats 4000000 in
theorem c_collectRoomy (hsh : k_Main sh) (hI : k_Ty σ) {p : Int} (hp : -2147483648 ≤ p ∧ p < 2147483648) (hp0 : 0 ≤ p ∧ p < 12) : k_C E mX4_collectRoomy 5 [.ref 10, .int (iI (p))] sh σ 0 0 (k_ret none sh (u_roomy σ p)) := by
  refine k_C_of (ls0 := [(0, .ref 10), (1, .int (iI (p)))]) rfl pnX4 (fun v hv => k_cat1 rfl hv) (Nat.le_of_ble_eq_true rfl) rfl ?_
  obtain ⟨t0, t1, t2, t3, t4, t5, t6, t7, t8, t9, t10, t11⟩ := id hI
  have q1 := t6 p.toNat
  refine k_aload_n dX4_collectRoomy_0 0 rfl rfl (by decide) ?_
  refine k_get (kf := 0) (v := .ref 1) dX4_collectRoomy_1 kcX4 w_193 (by decide) (by decide) (s_10 hsh) rfl rfl ?_
  refine k_getN (kf := 6) (v := .ref 5) dX4_collectRoomy_4 kcX5 w_147 (by decide) (by decide) (s_1 hsh) rfl rfl ?_
  refine k_iload_n dX4_collectRoomy_7 1 rfl rfl ?_
  refine k_callSNr (st := []) (as := [.ref 5, .int (iI (p))]) dX4_collectRoomy_8 oX7_read w_474 w_460 rfl (by omega) rfl (Nat.le_of_ble_eq_true rfl) (c_readIn (by decide) (s_5 hsh) (by decide) (by omega) (by omega)) ?_
  refine k_istore_n (ls' := [(0, .ref 10), (1, .int (iI (p))), (2, .int (iI (σ 5 (p).toNat)))]) dX4_collectRoomy_11 rfl (by decide) rfl rfl ?_
  refine k_aload_n dX4_collectRoomy_12 0 rfl rfl (by decide) ?_
  refine k_iconst (v := 0) dX4_collectRoomy_13 rfl ?_
  refine k_putf (kf := 4) dX4_collectRoomy_14 kcX4 w_197 (by decide) (by decide) (s_10 hsh) rfl rfl rfl rfl ?_
  refine k_iconst (v := 0) dX4_collectRoomy_17 rfl ?_
  refine k_istore_n (ls' := [(0, .ref 10), (1, .int (iI (p))), (2, .int (iI (σ 5 (p).toNat))), (3, .int (iI (0)))]) dX4_collectRoomy_18 rfl (by decide) rfl rfl ?_
  refine k_eqσ (σ' := u_roomyN σ p 0) (k_up_self _ 11) ?_
  refine k_down (P := fun i19 : Nat => k_V E mX4_collectRoomy _ 19 [(0, .ref 10), (1, .int (iI (p))), (2, .int (iI (σ 5 (p).toNat))), (3, .int (iI ((i19 : Int))))] [] sh (u_roomyN σ p i19) _ _ _) (3) ?_ ?_
  · skip
    have hq := u_roomyN_pl (σ := σ) p (3)
    have q1 := t6 p.toNat
    have q2 := f_fullN_r σ p (3) (by omega)
    have q3 := f_wish_r hI p ((3) : Int)
    have q4 := z_one_pos p
    have q5 : z_one p < 4096 := z_one_lt 12 (by omega) (by omega)
    have q6 := t8 p.toNat
    have q7 := f_roomy_r σ hI (f_wish σ p ((3) : Int)) (z_one p)
    refine k_iload_n dX4_collectRoomy_19 3 rfl rfl ?_
    refine k_iconst (v := 3) dX4_collectRoomy_20 rfl ?_
    refine k_icmp_ge (tgt := 100) dX4_collectRoomy_21 rfl ⟨by omega, by omega⟩ ⟨by decide, by decide⟩ (fun h_1 => ?_) (fun h_1 => absurd h_1 (by omega))
    refine k_aload_n dX4_collectRoomy_100 0 rfl rfl (by decide) ?_
    refine k_get (kf := 1) (v := .ref 11) dX4_collectRoomy_101 kcX4 w_194 (by decide) (by decide) (s_10 hsh) rfl rfl ?_
    refine k_iconst (v := 3) dX4_collectRoomy_104 rfl ?_
    refine k_aload_n dX4_collectRoomy_105 0 rfl rfl (by decide) ?_
    refine k_get (kf := 0) (v := .ref 1) dX4_collectRoomy_106 kcX4 w_193 (by decide) (by decide) (s_10 hsh) rfl rfl ?_
    refine k_aload_n dX4_collectRoomy_109 0 rfl rfl (by decide) ?_
    refine k_get (kf := 0) (v := .ref 1) dX4_collectRoomy_110 kcX4 w_193 (by decide) (by decide) (s_10 hsh) rfl rfl ?_
    refine k_getN (kf := 8) (v := .ref 7) dX4_collectRoomy_113 kcX5 w_152 (by decide) (by decide) (s_1 hsh) rfl rfl ?_
    refine k_iload_n dX4_collectRoomy_116 1 rfl rfl ?_
    refine k_callSNr (st := [.ref 1, .int (iI (3)), .ref 11]) (as := [.ref 7, .int (iI (p))]) dX4_collectRoomy_117 oX7_read w_474 w_460 rfl (by omega) rfl (Nat.le_of_ble_eq_true rfl) (c_readIn (by decide) (s_7 hsh) (by decide) (by omega) (by omega)) ?_
    refine k_eqst (congrArg (fun z : Int => Value.int (iI z) :: [.ref 1, .int (iI (3)), .ref 11]) (show σ 7 (p).toNat = (u_roomyN σ p (3)) 7 (p).toNat from rfl)) ?_
    refine k_iconst (v := 1) dX4_collectRoomy_120 rfl ?_
    refine k_iload_n dX4_collectRoomy_121 1 rfl rfl ?_
    refine k_ishl (v := (iI (z_one (p)))) dX4_collectRoomy_122 (z_oneI (by omega) (by omega)) ?_
    refine k_callVr (st := [.int (iI (3)), .ref 11]) (as := [.int (iI (σ 7 (p).toNat)), .int (iI (z_one (p)))]) dX4_collectRoomy_123 oX5_roomyBlocks w_479 w_480 w_481 rfl (by omega) rfl (Nat.le_of_ble_eq_true rfl) (by decide) (s_1 hsh) rfl (c_roomyBlocks hsh (hq.ty hI) ⟨by omega, by omega⟩ ⟨by omega, by omega⟩ (by omega)) ?_
    refine k_eqst (congrArg (fun z : Int => Value.int (iI z) :: [.int (iI (3)), .ref 11]) (show f_roomy σ (σ 7 (p).toNat) (z_one (p)) = f_roomy (u_roomyN σ p (3)) (σ 7 (p).toNat) (z_one (p)) from (hq.roomy _ _).symm)) ?_
    refine k_callSNr (st := []) (as := [.ref 11, .int (iI (3)), .int (iI (f_roomy σ (σ 7 (p).toNat) (z_one (p))))]) dX4_collectRoomy_126 oX7_write w_497 w_498 rfl (by omega) rfl (Nat.le_of_ble_eq_true rfl) (c_writeIn (by decide) (s_11 hsh) (by decide) (by omega) (by omega)) ?_
    exact k_retv dX4_collectRoomy_129 rfl (by funext i; by_cases e11 : i = 11; (· subst e11; rfl); by_cases e10 : i = 10; (· subst e10; rfl); simp [k_up, u_roomyN, u_roomy, e11, e10])
  · intro i19 hi19 ih19
    have hq := u_roomyN_pl (σ := σ) p i19
    have q1 := t6 p.toNat
    have q2 := f_fullN_r σ p i19 (by omega)
    have q3 := f_wish_r hI p (i19 : Int)
    have q4 := z_one_pos p
    have q5 : z_one p < 4096 := z_one_lt 12 (by omega) (by omega)
    have q6 := t8 p.toNat
    have q7 := f_roomy_r σ hI (f_wish σ p (i19 : Int)) (z_one p)
    refine k_iload_n dX4_collectRoomy_19 3 rfl rfl ?_
    refine k_iconst (v := 3) dX4_collectRoomy_20 rfl ?_
    refine k_icmp_ge (tgt := 100) dX4_collectRoomy_21 rfl ⟨by omega, by omega⟩ ⟨by decide, by decide⟩ (fun h_2 => absurd h_2 (by omega)) (fun h_2 => ?_)
    refine k_iload_n dX4_collectRoomy_24 3 rfl rfl ?_
    refine k_iload_n dX4_collectRoomy_25 2 rfl rfl ?_
    refine k_icmp_ge (tgt := 33) dX4_collectRoomy_26 rfl ⟨by omega, by omega⟩ ⟨by omega, by omega⟩ (fun h_3 => ?_) (fun h_3 => ?_)
    · refine k_iconst (v := 0) dX4_collectRoomy_33 rfl ?_
      refine k_istore (ls' := [(0, .ref 10), (1, .int (iI (p))), (2, .int (iI (σ 5 (p).toNat))), (3, .int (iI ((i19 : Int)))), (4, .int (iI (0)))]) dX4_collectRoomy_34 (by decide) rfl rfl ?_
      refine k_aload_n dX4_collectRoomy_36 0 rfl rfl (by decide) ?_
      refine k_get (kf := 1) (v := .ref 11) dX4_collectRoomy_37 kcX4 w_194 (by decide) (by decide) (s_10 hsh) rfl rfl ?_
      refine k_iload_n dX4_collectRoomy_40 3 rfl rfl ?_
      refine k_iload dX4_collectRoomy_41 4 rfl ?_
      refine k_if_eq (tgt := 68) dX4_collectRoomy_43 rfl ⟨by decide, by decide⟩ (fun h_4 => ?_) (fun h_4 => absurd h_4 (by decide))
      refine k_iconst (v := 0) dX4_collectRoomy_68 rfl ?_
      refine k_callSNr (st := []) (as := [.ref 11, .int (iI ((i19 : Int))), .int (iI (0))]) dX4_collectRoomy_69 oX7_write w_497 w_498 rfl (by omega) rfl (Nat.le_of_ble_eq_true rfl) (c_writeIn (by decide) (s_11 hsh) (by decide) (by omega) (by omega)) ?_
      refine k_aload_n dX4_collectRoomy_72 0 rfl rfl (by decide) ?_
      refine k_dup dX4_collectRoomy_73 rfl ?_
      refine k_get (kf := 4) (v := .int (iI ((u_roomyN σ p i19) 10 4))) dX4_collectRoomy_74 kcX4 w_197 (by decide) (by decide) (s_10 hsh) rfl rfl ?_
      refine k_iload dX4_collectRoomy_77 4 rfl ?_
      refine k_if_eq (tgt := 89) dX4_collectRoomy_79 rfl ⟨by decide, by decide⟩ (fun h_5 => ?_) (fun h_5 => absurd h_5 (by decide))
      refine k_iconst (v := 0) dX4_collectRoomy_89 rfl ?_
      refine k_iadd dX4_collectRoomy_90 ?_
      refine k_putf (kf := 4) dX4_collectRoomy_91 kcX4 w_197 (by decide) (by decide) (s_10 hsh) rfl rfl rfl rfl ?_
      refine k_iinc (ls' := [(0, .ref 10), (1, .int (iI (p))), (2, .int (iI (σ 5 (p).toNat))), (3, .int (iI ((i19 : Int) + 1))), (4, .int (iI (0)))]) dX4_collectRoomy_94 3 rfl (by decide) rfl rfl ?_
      refine k_goto (tgt := 19) dX4_collectRoomy_97 rfl ?_
      refine k_eqσ (σ' := u_roomyN σ p (i19 + 1)) (by
          funext i
          by_cases e11 : i = 11
          · subst e11; show k_u1 (f_useRN σ p i19) i19 (f_useR σ p i19) = k_u1 (f_useRN σ p i19) i19 _; rw [f_useR, if_neg (by omega)]
          by_cases e10 : i = 10
          · subst e10; show k_u1 (σ 10) 4 (f_fullN σ p i19 + (if (i19 : Int) < σ 5 p.toNat then z_one (3 - (i19 : Int)) else 0)) = k_u1 (k_u1 (σ 10) 4 (f_fullN σ p i19)) 4 _; rw [if_neg (by omega)]; funext j; unfold k_u1; split <;> rfl
          simp [k_up, u_roomyN, e11, e10]) ?_
      refine k_dropr (ls' := [(0, .ref 10), (1, .int (iI (p))), (2, .int (iI (σ 5 (p).toNat))), (3, .int (iI ((i19 : Int) + 1)))]) (ex := [(4, .int (iI (0)))]) rfl ?_
      exact ih19
    · refine k_iconst (v := 1) dX4_collectRoomy_29 rfl ?_
      refine k_goto (tgt := 34) dX4_collectRoomy_30 rfl ?_
      refine k_istore (ls' := [(0, .ref 10), (1, .int (iI (p))), (2, .int (iI (σ 5 (p).toNat))), (3, .int (iI ((i19 : Int)))), (4, .int (iI (1)))]) dX4_collectRoomy_34 (by decide) rfl rfl ?_
      refine k_aload_n dX4_collectRoomy_36 0 rfl rfl (by decide) ?_
      refine k_get (kf := 1) (v := .ref 11) dX4_collectRoomy_37 kcX4 w_194 (by decide) (by decide) (s_10 hsh) rfl rfl ?_
      refine k_iload_n dX4_collectRoomy_40 3 rfl rfl ?_
      refine k_iload dX4_collectRoomy_41 4 rfl ?_
      refine k_if_eq (tgt := 68) dX4_collectRoomy_43 rfl ⟨by decide, by decide⟩ (fun h_6 => absurd h_6 (by decide)) (fun h_6 => ?_)
      refine k_aload_n dX4_collectRoomy_46 0 rfl rfl (by decide) ?_
      refine k_get (kf := 0) (v := .ref 1) dX4_collectRoomy_47 kcX4 w_193 (by decide) (by decide) (s_10 hsh) rfl rfl ?_
      refine k_aload_n dX4_collectRoomy_50 0 rfl rfl (by decide) ?_
      refine k_get (kf := 0) (v := .ref 1) dX4_collectRoomy_51 kcX4 w_193 (by decide) (by decide) (s_10 hsh) rfl rfl ?_
      refine k_iload_n dX4_collectRoomy_54 1 rfl rfl ?_
      refine k_iload_n dX4_collectRoomy_55 3 rfl rfl ?_
      refine k_callVr (st := [.ref 1, .int (iI ((i19 : Int))), .ref 11]) (as := [.int (iI (p)), .int (iI ((i19 : Int)))]) dX4_collectRoomy_56 oX5_wish w_475 w_476 w_477 rfl (by omega) rfl (Nat.le_of_ble_eq_true rfl) (by decide) (s_1 hsh) rfl (c_wish hsh (hq.ty hI) ⟨by omega, by omega⟩ ⟨by omega, by omega⟩ (by omega)) ?_
      refine k_eqst (congrArg (fun z : Int => Value.int (iI z) :: [.ref 1, .int (iI ((i19 : Int))), .ref 11]) (show f_wish σ p (i19 : Int) = f_wish (u_roomyN σ p i19) p ((i19 : Int)) from (hq.wish _ _).symm)) ?_
      refine k_iconst (v := 1) dX4_collectRoomy_59 rfl ?_
      refine k_iload_n dX4_collectRoomy_60 1 rfl rfl ?_
      refine k_ishl (v := (iI (z_one (p)))) dX4_collectRoomy_61 (z_oneI (by omega) (by omega)) ?_
      refine k_callVr (st := [.int (iI ((i19 : Int))), .ref 11]) (as := [.int (iI (f_wish σ p (i19 : Int))), .int (iI (z_one (p)))]) dX4_collectRoomy_62 oX5_roomyBlocks w_479 w_480 w_481 rfl (by omega) rfl (Nat.le_of_ble_eq_true rfl) (by decide) (s_1 hsh) rfl (c_roomyBlocks hsh (hq.ty hI) ⟨by omega, by omega⟩ ⟨by omega, by omega⟩ (by omega)) ?_
      refine k_eqst (congrArg (fun z : Int => Value.int (iI z) :: [.int (iI ((i19 : Int))), .ref 11]) (show f_roomy σ (f_wish σ p (i19 : Int)) (z_one (p)) = f_roomy (u_roomyN σ p i19) (f_wish σ p (i19 : Int)) (z_one (p)) from (hq.roomy _ _).symm)) ?_
      refine k_goto (tgt := 69) dX4_collectRoomy_65 rfl ?_
      refine k_callSNr (st := []) (as := [.ref 11, .int (iI ((i19 : Int))), .int (iI (f_roomy σ (f_wish σ p (i19 : Int)) (z_one (p))))]) dX4_collectRoomy_69 oX7_write w_497 w_498 rfl (by omega) rfl (Nat.le_of_ble_eq_true rfl) (c_writeIn (by decide) (s_11 hsh) (by decide) (by omega) (by omega)) ?_
      refine k_aload_n dX4_collectRoomy_72 0 rfl rfl (by decide) ?_
      refine k_dup dX4_collectRoomy_73 rfl ?_
      refine k_get (kf := 4) (v := .int (iI ((u_roomyN σ p i19) 10 4))) dX4_collectRoomy_74 kcX4 w_197 (by decide) (by decide) (s_10 hsh) rfl rfl ?_
      refine k_iload dX4_collectRoomy_77 4 rfl ?_
      refine k_if_eq (tgt := 89) dX4_collectRoomy_79 rfl ⟨by decide, by decide⟩ (fun h_7 => absurd h_7 (by decide)) (fun h_7 => ?_)
      refine k_iload_n dX4_collectRoomy_82 3 rfl rfl ?_
      refine k_callSr (st := [.int (iI ((u_roomyN σ p i19) 10 4)), .ref 10]) (as := [.int (iI ((i19 : Int)))]) dX4_collectRoomy_83 oX4_scoreOf w_500 w_501 rfl (by omega) rfl (Nat.le_of_ble_eq_true rfl) (c_scoreOf ⟨by omega, by omega⟩ (by omega)) ?_
      refine k_goto (tgt := 90) dX4_collectRoomy_86 rfl ?_
      refine k_iadd dX4_collectRoomy_90 ?_
      refine k_putf (kf := 4) dX4_collectRoomy_91 kcX4 w_197 (by decide) (by decide) (s_10 hsh) rfl rfl rfl rfl ?_
      refine k_iinc (ls' := [(0, .ref 10), (1, .int (iI (p))), (2, .int (iI (σ 5 (p).toNat))), (3, .int (iI ((i19 : Int) + 1))), (4, .int (iI (1)))]) dX4_collectRoomy_94 3 rfl (by decide) rfl rfl ?_
      refine k_goto (tgt := 19) dX4_collectRoomy_97 rfl ?_
      refine k_eqσ (σ' := u_roomyN σ p (i19 + 1)) (by
          funext i
          by_cases e11 : i = 11
          · subst e11; show k_u1 (f_useRN σ p i19) i19 (f_useR σ p i19) = k_u1 (f_useRN σ p i19) i19 _; rw [f_useR, if_pos (by omega)]
          by_cases e10 : i = 10
          · subst e10; show k_u1 (σ 10) 4 (f_fullN σ p i19 + (if (i19 : Int) < σ 5 p.toNat then z_one (3 - (i19 : Int)) else 0)) = k_u1 (k_u1 (σ 10) 4 (f_fullN σ p i19)) 4 _; rw [if_pos (by omega)]; funext j; unfold k_u1; split <;> rfl
          simp [k_up, u_roomyN, e11, e10]) ?_
      refine k_dropr (ls' := [(0, .ref 10), (1, .int (iI (p))), (2, .int (iI (σ 5 (p).toNat))), (3, .int (iI ((i19 : Int) + 1)))]) (ex := [(4, .int (iI (1)))]) rfl ?_
      exact ih19
theorem u_open_pl (p : Int) (n : Nat) : k_PlEq (u_open σ p n) σ := k_PlEq.refl.up (by decide)
set_option maxHeartbeats 4000000 in
theorem c_collectOpen (hsh : k_Main sh) (hI : k_Ty σ) {p : Int} (hp : -2147483648 ≤ p ∧ p < 2147483648) (hp0 : 0 ≤ p ∧ p < 12) : k_C E mX4_collectOpen 4 [.ref 10, .int (iI (p))] sh σ 0 0 (k_ret none sh (u_open σ p 3)) := by
  refine k_C_of (ls0 := [(0, .ref 10), (1, .int (iI (p)))]) rfl pnX4 (fun v hv => k_cat1 rfl hv) (Nat.le_of_ble_eq_true rfl) rfl ?_
  obtain ⟨t0, t1, t2, t3, t4, t5, t6, t7, t8, t9, t10, t11⟩ := id hI
  have q1 := t6 p.toNat
  refine k_aload_n dX4_collectOpen_0 0 rfl rfl (by decide) ?_
  refine k_get (kf := 0) (v := .ref 1) dX4_collectOpen_1 kcX4 w_193 (by decide) (by decide) (s_10 hsh) rfl rfl ?_
  refine k_getN (kf := 6) (v := .ref 5) dX4_collectOpen_4 kcX5 w_147 (by decide) (by decide) (s_1 hsh) rfl rfl ?_
  refine k_iload_n dX4_collectOpen_7 1 rfl rfl ?_
  refine k_callSNr (st := []) (as := [.ref 5, .int (iI (p))]) dX4_collectOpen_8 oX7_read w_474 w_460 rfl (by omega) rfl (Nat.le_of_ble_eq_true rfl) (c_readIn (by decide) (s_5 hsh) (by decide) (by omega) (by omega)) ?_
  refine k_istore_n (ls' := [(0, .ref 10), (1, .int (iI (p))), (2, .int (iI (σ 5 (p).toNat)))]) dX4_collectOpen_11 rfl (by decide) rfl rfl ?_
  refine k_iconst (v := 0) dX4_collectOpen_12 rfl ?_
  refine k_istore_n (ls' := [(0, .ref 10), (1, .int (iI (p))), (2, .int (iI (σ 5 (p).toNat))), (3, .int (iI (0)))]) dX4_collectOpen_13 rfl (by decide) rfl rfl ?_
  refine k_eqσ (σ' := (u_open σ p 0)) (k_up_self _ 11) ?_
  refine k_down (P := fun i14 : Nat => k_V E mX4_collectOpen _ 14 [(0, .ref 10), (1, .int (iI (p))), (2, .int (iI (σ 5 (p).toNat))), (3, .int (iI ((i14 : Int))))] [] sh (u_open σ p i14) _ _ _) (3) ?_ ?_
  · skip
    have hq := u_open_pl (σ := σ) p (3)
    have q1 := t6 p.toNat
    have q3 := f_wish_r hI p ((3) : Int)
    refine k_iload_n dX4_collectOpen_14 3 rfl rfl ?_
    refine k_iconst (v := 3) dX4_collectOpen_15 rfl ?_
    refine k_icmp_ge (tgt := 58) dX4_collectOpen_16 rfl ⟨by omega, by omega⟩ ⟨by decide, by decide⟩ (fun h_1 => ?_) (fun h_1 => absurd h_1 (by omega))
    exact k_retv dX4_collectOpen_58 rfl rfl
  · intro i14 hi14 ih14
    have hq := u_open_pl (σ := σ) p i14
    have q1 := t6 p.toNat
    have q3 := f_wish_r hI p (i14 : Int)
    refine k_iload_n dX4_collectOpen_14 3 rfl rfl ?_
    refine k_iconst (v := 3) dX4_collectOpen_15 rfl ?_
    refine k_icmp_ge (tgt := 58) dX4_collectOpen_16 rfl ⟨by omega, by omega⟩ ⟨by decide, by decide⟩ (fun h_2 => absurd h_2 (by omega)) (fun h_2 => ?_)
    refine k_aload_n dX4_collectOpen_19 0 rfl rfl (by decide) ?_
    refine k_get (kf := 1) (v := .ref 11) dX4_collectOpen_20 kcX4 w_194 (by decide) (by decide) (s_10 hsh) rfl rfl ?_
    refine k_iload_n dX4_collectOpen_23 3 rfl rfl ?_
    refine k_iload_n dX4_collectOpen_24 3 rfl rfl ?_
    refine k_iload_n dX4_collectOpen_25 2 rfl rfl ?_
    refine k_icmp_ge (tgt := 48) dX4_collectOpen_26 rfl ⟨by omega, by omega⟩ ⟨by omega, by omega⟩ (fun h_3 => ?_) (fun h_3 => ?_)
    · refine k_iconst (v := 0) dX4_collectOpen_48 rfl ?_
      refine k_callSNr (st := []) (as := [.ref 11, .int (iI ((i14 : Int))), .int (iI (0))]) dX4_collectOpen_49 oX7_write w_497 w_498 rfl (by omega) rfl (Nat.le_of_ble_eq_true rfl) (c_writeIn (by decide) (s_11 hsh) (by decide) (by omega) (by omega)) ?_
      refine k_iinc (ls' := [(0, .ref 10), (1, .int (iI (p))), (2, .int (iI (σ 5 (p).toNat))), (3, .int (iI ((i14 : Int) + 1)))]) dX4_collectOpen_52 3 rfl (by decide) rfl rfl ?_
      refine k_goto (tgt := 14) dX4_collectOpen_55 rfl ?_
      refine k_eqσ (σ' := u_open σ p (i14 + 1)) (by
          funext i
          by_cases e11 : i = 11
          · subst e11; show k_u1 (u_open σ p i14 11) i14 (if (i14 : Int) < σ 5 p.toNat then f_open σ (f_wish σ p (i14 : Int)) else 0) = k_u1 (u_open σ p i14 11) i14 _; rw [if_neg (by omega)]
          simp [k_up, u_open, e11]) ?_
      exact ih14
    · refine k_aload_n dX4_collectOpen_29 0 rfl rfl (by decide) ?_
      refine k_get (kf := 0) (v := .ref 1) dX4_collectOpen_30 kcX4 w_193 (by decide) (by decide) (s_10 hsh) rfl rfl ?_
      refine k_aload_n dX4_collectOpen_33 0 rfl rfl (by decide) ?_
      refine k_get (kf := 0) (v := .ref 1) dX4_collectOpen_34 kcX4 w_193 (by decide) (by decide) (s_10 hsh) rfl rfl ?_
      refine k_iload_n dX4_collectOpen_37 1 rfl rfl ?_
      refine k_iload_n dX4_collectOpen_38 3 rfl rfl ?_
      refine k_callVr (st := [.ref 1, .int (iI ((i14 : Int))), .ref 11]) (as := [.int (iI (p)), .int (iI ((i14 : Int)))]) dX4_collectOpen_39 oX5_wish w_475 w_476 w_477 rfl (by omega) rfl (Nat.le_of_ble_eq_true rfl) (by decide) (s_1 hsh) rfl (c_wish hsh (hq.ty hI) ⟨by omega, by omega⟩ ⟨by omega, by omega⟩ (by omega)) ?_
      refine k_eqst (congrArg (fun z : Int => Value.int (iI z) :: [.ref 1, .int (iI ((i14 : Int))), .ref 11]) (show f_wish σ p (i14 : Int) = f_wish (u_open σ p i14) p ((i14 : Int)) from (hq.wish _ _).symm)) ?_
      refine k_callVr (st := [.int (iI ((i14 : Int))), .ref 11]) (as := [.int (iI (f_wish σ p (i14 : Int)))]) dX4_collectOpen_42 oX5_openBlocks w_1147 w_484 w_485 rfl (by omega) rfl (Nat.le_of_ble_eq_true rfl) (by decide) (s_1 hsh) rfl (c_openBlocks hsh (hq.ty hI) ⟨by omega, by omega⟩) ?_
      refine k_eqst (congrArg (fun z : Int => Value.int (iI z) :: [.int (iI ((i14 : Int))), .ref 11]) (show f_open σ (f_wish σ p (i14 : Int)) = f_open (u_open σ p i14) (f_wish σ p (i14 : Int)) from (hq.opn _).symm)) ?_
      refine k_goto (tgt := 49) dX4_collectOpen_45 rfl ?_
      refine k_callSNr (st := []) (as := [.ref 11, .int (iI ((i14 : Int))), .int (iI (f_open σ (f_wish σ p (i14 : Int))))]) dX4_collectOpen_49 oX7_write w_497 w_498 rfl (by omega) rfl (Nat.le_of_ble_eq_true rfl) (c_writeIn (by decide) (s_11 hsh) (by decide) (by omega) (by omega)) ?_
      refine k_iinc (ls' := [(0, .ref 10), (1, .int (iI (p))), (2, .int (iI (σ 5 (p).toNat))), (3, .int (iI ((i14 : Int) + 1)))]) dX4_collectOpen_52 3 rfl (by decide) rfl rfl ?_
      refine k_goto (tgt := 14) dX4_collectOpen_55 rfl ?_
      refine k_eqσ (σ' := u_open σ p (i14 + 1)) (by
          funext i
          by_cases e11 : i = 11
          · subst e11; show k_u1 (u_open σ p i14 11) i14 (if (i14 : Int) < σ 5 p.toNat then f_open σ (f_wish σ p (i14 : Int)) else 0) = k_u1 (u_open σ p i14 11) i14 _; rw [if_pos (by omega)]
          simp [k_up, u_open, e11]) ?_
      exact ih14
def u_keep (σ : Nat → Nat → Int) (z : Int) : Nat → Nat → Int := if σ 10 5 < z then k_up (k_up σ 10 (k_u1 (σ 10) 5 z)) 13 (σ 12) else σ
set_option maxHeartbeats 4000000 in
theorem c_keepIfBetter (hsh : k_Main sh) {z : Int} (hz : -2147483648 ≤ z ∧ z < 2147483648) (hb0 : -2147483648 ≤ σ 10 5 ∧ σ 10 5 < 2147483648) : k_C E mX4_keepIfBetter 3 [.ref 10, .int (iI (z))] sh σ 0 0 (k_ret none sh (u_keep σ z)) := by
  refine k_C_of (ls0 := [(0, .ref 10), (1, .int (iI (z)))]) rfl pnX4 (fun v hv => k_cat1 rfl hv) (Nat.le_of_ble_eq_true rfl) rfl ?_
  refine k_iload_n dX4_keepIfBetter_0 1 rfl rfl ?_
  refine k_aload_n dX4_keepIfBetter_1 0 rfl rfl (by decide) ?_
  refine k_get (kf := 5) (v := .int (iI (σ 10 5))) dX4_keepIfBetter_2 kcX4 w_198 (by decide) (by decide) (s_10 hsh) rfl rfl ?_
  refine k_icmp_le (tgt := 24) dX4_keepIfBetter_5 rfl ⟨by omega, by omega⟩ ⟨by omega, by omega⟩ (fun h_1 => ?_) (fun h_1 => ?_)
  · exact k_retv dX4_keepIfBetter_24 rfl (by unfold u_keep; first | exact (if_pos (by omega)).symm | exact (if_neg (by omega)).symm)
  · refine k_aload_n dX4_keepIfBetter_8 0 rfl rfl (by decide) ?_
    refine k_iload_n dX4_keepIfBetter_9 1 rfl rfl ?_
    refine k_putf (kf := 5) dX4_keepIfBetter_10 kcX4 w_198 (by decide) (by decide) (s_10 hsh) rfl rfl rfl rfl ?_
    refine k_aload_n dX4_keepIfBetter_13 0 rfl rfl (by decide) ?_
    refine k_get (kf := 2) (v := .ref 12) dX4_keepIfBetter_14 kcX4 w_195 (by decide) (by decide) (s_10 hsh) rfl rfl ?_
    refine k_aload_n dX4_keepIfBetter_17 0 rfl rfl (by decide) ?_
    refine k_get (kf := 3) (v := .ref 13) dX4_keepIfBetter_18 kcX4 w_196 (by decide) (by decide) (s_10 hsh) rfl rfl ?_
    refine k_callSNr (st := []) (as := [.ref 12, .ref 13]) dX4_keepIfBetter_21 oX7_copyRow w_514 w_430 rfl (by omega) rfl (Nat.le_of_ble_eq_true rfl) (c_copyRow (w := 4) (by decide) (by decide) (s_12 hsh) (s_13 hsh) (by decide)) ?_
    exact k_retv dX4_keepIfBetter_24 rfl (by unfold u_keep; first | exact (if_pos (by omega)).symm | exact (if_neg (by omega)).symm)
abbrev g_S : Type := (Nat → Int) × (Nat → Int) × Int
/-- the search's own cells: tried, best, the best score -/
def g_put (σ : Nat → Nat → Int) (S : g_S) : Nat → Nat → Int := k_up (k_up (k_up σ 12 S.1) 13 S.2.1) 10 (k_u1 (σ 10) 5 S.2.2)
def g_blk (us : Nat → Int) (full : Int) (n : Nat) (taken score : Int) : Int := if 0 < n ∨ score < full then z_diff (us (3 - n)) taken else 0
/-- the search for the best placement, n + 1 parts before its end -/
def g_ext (us : Nat → Int) (full : Int) : Nat → Int → Int → g_S → g_S
  | 0, _, score, S => if S.2.2 < score then (S.1, S.1, score) else S
  | n + 1, taken, score, S =>
    let S1 := k_fold 4 (fun b T => if z_bit (g_blk us full n taken score) (b : Int) = true then g_ext us full n (z_or taken (z_one (b : Int))) (score + z_one (n : Int)) (k_u1 T.1 (3 - n) (b : Int), T.2) else T) S
    g_ext us full n taken score (k_u1 S1.1 (3 - n) (-1), S1.2)
theorem g_one_le {n : Nat} (h : n < 4) : 0 < z_one (n : Int) ∧ z_one (n : Int) ≤ 8 := by
  have : n = 0 ∨ n = 1 ∨ n = 2 ∨ n = 3 := by omega
  rcases this with rfl | rfl | rfl | rfl <;> decide
theorem g_ext_r (us : Nat → Int) (full : Int) : ∀ (n : Nat) (taken score : Int) (S : g_S), n ≤ 4 → 0 ≤ score → score + 8 * n ≤ 100 → (-1 ≤ S.2.2 ∧ S.2.2 ≤ 100) → -1 ≤ (g_ext us full n taken score S).2.2 ∧ (g_ext us full n taken score S).2.2 ≤ 100
  | 0, taken, score, S, _, h0, h1, h2 => by
    unfold g_ext
    split
    · exact ⟨by show -1 ≤ score; omega, by show score ≤ 100; omega⟩
    · exact h2
  | n + 1, taken, score, S, hn, h0, h1, h2 => by
    have hz := g_one_le (n := n) (by omega)
    unfold g_ext
    refine g_ext_r us full n taken score _ (by omega) h0 (by omega) ?_
    exact k_fold_inv (P := fun T : g_S => -1 ≤ T.2.2 ∧ T.2.2 ≤ 100) h2 (fun b T hT => by
      split
      · exact g_ext_r us full n _ _ _ (by omega) (by omega) (by omega) hT
      · exact hT) 4
theorem g_put_put (σ : Nat → Nat → Int) (S T : g_S) : g_put (g_put σ S) T = g_put σ T := by
  funext i
  by_cases e10 : i = 10
  · subst e10; show k_u1 (k_u1 (σ 10) 5 S.2.2) 5 T.2.2 = k_u1 (σ 10) 5 T.2.2; funext j; unfold k_u1; split <;> rfl
  · by_cases e13 : i = 13
    · subst e13; rfl
    · by_cases e12 : i = 12
      · subst e12; rfl
      · simp [g_put, k_up, e10, e12, e13]
theorem g_foldr (us : Nat → Int) (full : Int) (n : Nat) (taken score : Int) (S : g_S) (hn : n < 4) (h0 : 0 ≤ score) (h1 : score + 8 * (n + 1 : Nat) ≤ 100) (hS : -1 ≤ S.2.2 ∧ S.2.2 ≤ 100) (m : Nat) : -1 ≤ (k_fold m (fun b T => if z_bit (g_blk us full n taken score) (b : Int) = true then g_ext us full n (z_or taken (z_one (b : Int))) (score + z_one (n : Int)) (k_u1 T.1 (3 - n) (b : Int), T.2) else T) S).2.2 ∧ (k_fold m (fun b T => if z_bit (g_blk us full n taken score) (b : Int) = true then g_ext us full n (z_or taken (z_one (b : Int))) (score + z_one (n : Int)) (k_u1 T.1 (3 - n) (b : Int), T.2) else T) S).2.2 ≤ 100 := by
  have hz := g_one_le (n := n) hn
  refine k_fold_inv (P := fun T : g_S => -1 ≤ T.2.2 ∧ T.2.2 ≤ 100) hS (fun b T hT => ?_) m
  split
  · exact g_ext_r us full n _ _ _ (by omega) (by omega) (by omega) hT
  · exact hT
theorem g_wr (σ : Nat → Nat → Int) (T : g_S) {v : Int} {n : Nat} {part : Int} (h : part = 3 - (n : Int) ∧ 0 ≤ part) : g_put σ (k_u1 T.1 (3 - n) v, T.2) = k_up (g_put σ T) 12 (k_u1 (g_put σ T 12) part.toNat v) := by
  have e : 3 - n = part.toNat := by omega
  rw [e]
  funext i
  by_cases e10 : i = 10
  · subst e10; rfl
  · by_cases e13 : i = 13
    · subst e13; rfl
    · by_cases e12 : i = 12
      · subst e12; rfl
      · simp [g_put, k_up, e10, e12, e13]
theorem g_keep (σ : Nat → Nat → Int) (S : g_S) (score : Int) : g_put σ (g_ext (σ 11) (σ 10 4) 0 0 score S) = u_keep (g_put σ S) score := by
  unfold g_ext u_keep
  have e : (g_put σ S) 10 5 = S.2.2 := rfl
  rw [e]
  split
  · funext i
    by_cases e10 : i = 10
    · subst e10; show k_u1 (σ 10) 5 score = k_u1 (k_u1 (σ 10) 5 S.2.2) 5 score; funext j; unfold k_u1; split <;> rfl
    · by_cases e13 : i = 13
      · subst e13; rfl
      · by_cases e12 : i = 12
        · subst e12; rfl
        · simp [g_put, k_up, e10, e12, e13]
  · rfl
theorem g_blk_r {us : Nat → Int} (hus : ∀ j, 0 ≤ us j ∧ us j < 16) (full : Int) (n : Nat) (taken score : Int) : 0 ≤ g_blk us full n taken score ∧ g_blk us full n taken score < 16 := by
  unfold g_blk
  split
  · exact ⟨z_diff_nn _ _, z_diff_lt 4 (hus _).2⟩
  · decide
set_option maxHeartbeats 4000000 in
theorem c_extend (hsh : k_Main sh) (hus : ∀ j, 0 ≤ σ 11 j ∧ σ 11 j < 16) (hfu : 0 ≤ σ 10 4 ∧ σ 10 4 ≤ 100) : ∀ m : Nat, m ≤ 4 → ∀ (part taken score : Int) (S : g_S), part = 4 - (m : Int) → (0 ≤ taken ∧ taken < 16) → (0 ≤ score ∧ score + 8 * m ≤ 100) → (-1 ≤ S.2.2 ∧ S.2.2 ≤ 100) → k_C E mX4_extend (m + 4) [.ref 10, .int (iI part), .int (iI taken), .int (iI score)] sh (g_put σ S) 0 0 (k_ret none sh (g_put σ (g_ext (σ 11) (σ 10 4) m taken score S))) := by
  intro m
  induction m with
  | zero =>
    intro hm part taken score S hp ht hs hS
    refine k_C_of (ls0 := [(0, .ref 10), (1, .int (iI part)), (2, .int (iI taken)), (3, .int (iI score))]) rfl pnX4 (fun v hv => k_cat1 rfl hv) (Nat.le_of_ble_eq_true rfl) rfl ?_
    refine k_iload_n dX4_extend_0 1 rfl rfl ?_
    refine k_iconst (v := 3) dX4_extend_1 rfl ?_
    refine k_icmp_le (tgt := 11) dX4_extend_2 rfl ⟨by omega, by omega⟩ ⟨by decide, by decide⟩ (fun h_1 => absurd h_1 (by omega)) (fun h_1 => ?_)
    refine k_aload_n dX4_extend_5 0 rfl rfl (by decide) ?_
    refine k_iload_n dX4_extend_6 3 rfl rfl ?_
    refine k_callVr (st := []) (as := [.int (iI (score))]) dX4_extend_7 oX4_keepIfBetter w_510 w_512 w_3 rfl (by omega) rfl (Nat.le_of_ble_eq_true rfl) (by decide) (s_10 hsh) rfl (c_keepIfBetter hsh ⟨by omega, by omega⟩ ⟨by show -2147483648 ≤ S.2.2; omega, by show S.2.2 < 2147483648; omega⟩) ?_
    exact k_retv dX4_extend_10 rfl (g_keep σ S score).symm
  | succ n IH =>
    intro hm part taken score S hp ht hs hS
    have IH := IH (by omega)
    refine k_C_of (ls0 := [(0, .ref 10), (1, .int (iI part)), (2, .int (iI taken)), (3, .int (iI score))]) rfl pnX4 (fun v hv => k_cat1 rfl hv) (Nat.le_of_ble_eq_true rfl) rfl ?_
    have J54 : ∀ w4 : Int, k_V E mX4_extend (n + 1 + 4) 54 [(0, .ref 10), (1, .int (iI (part))), (2, .int (iI (taken))), (3, .int (iI (score))), (4, .int (iI (w4))), (5, .int (iI (g_blk (σ 11) (σ 10 4) n taken score)))] [] sh (g_put σ S) 0 0 (k_ret none sh (g_put σ (g_ext (σ 11) (σ 10 4) (n + 1) taken score S))) := by
      intro w4
      refine k_iconst (v := 0) dX4_extend_54 rfl ?_
      refine k_istore (ls' := [(0, .ref 10), (1, .int (iI (part))), (2, .int (iI (taken))), (3, .int (iI (score))), (4, .int (iI (w4))), (5, .int (iI (g_blk (σ 11) (σ 10 4) n taken score))), (6, .int (iI (0)))]) dX4_extend_55 (by decide) rfl rfl ?_
      refine k_down (P := fun i57 : Nat => k_V E mX4_extend _ 57 [(0, .ref 10), (1, .int (iI (part))), (2, .int (iI (taken))), (3, .int (iI (score))), (4, .int (iI (w4))), (5, .int (iI (g_blk (σ 11) (σ 10 4) n taken score))), (6, .int (iI ((i57 : Int))))] [] sh (g_put σ (k_fold i57 (fun b T => if z_bit (g_blk (σ 11) (σ 10 4) n taken score) (b : Int) = true then g_ext (σ 11) (σ 10 4) n (z_or taken (z_one (b : Int))) (score + z_one (n : Int)) (k_u1 T.1 (3 - n) (b : Int), T.2) else T) S)) _ _ _) (4) ?_ ?_
      · skip
        have hTr := g_foldr (σ 11) (σ 10 4) n taken score S (by omega) hs.1 (by omega) hS (4)
        have hb1 := g_blk_r hus (σ 10 4) n taken score
        refine k_iload dX4_extend_57 6 rfl ?_
        refine k_iconst (v := 4) dX4_extend_59 rfl ?_
        refine k_icmp_ge (tgt := 108) dX4_extend_60 rfl ⟨by omega, by omega⟩ ⟨by decide, by decide⟩ (fun h_1 => ?_) (fun h_1 => absurd h_1 (by omega))
        refine k_aload_n dX4_extend_108 0 rfl rfl (by decide) ?_
        refine k_get (kf := 2) (v := .ref 12) dX4_extend_109 kcX4 w_195 (by decide) (by decide) (s_10 hsh) rfl rfl ?_
        refine k_iload_n dX4_extend_112 1 rfl rfl ?_
        refine k_iconst (v := (-1)) dX4_extend_113 rfl ?_
        refine k_callSNr (st := []) (as := [.ref 12, .int (iI (part)), .int (iI (-1))]) dX4_extend_114 oX7_write w_497 w_498 rfl (by omega) rfl (Nat.le_of_ble_eq_true rfl) (c_writeIn (by decide) (s_12 hsh) (by decide) (by omega) (by omega)) ?_
        refine k_aload_n dX4_extend_117 0 rfl rfl (by decide) ?_
        refine k_iload_n dX4_extend_118 1 rfl rfl ?_
        refine k_iconst (v := 1) dX4_extend_119 rfl ?_
        refine k_iadd dX4_extend_120 ?_
        refine k_iload_n dX4_extend_121 2 rfl rfl ?_
        refine k_iload_n dX4_extend_122 3 rfl rfl ?_
        refine k_eqσ (σ' := g_put σ (k_u1 (k_fold 4 (fun b T => if z_bit (g_blk (σ 11) (σ 10 4) n taken score) (b : Int) = true then g_ext (σ 11) (σ 10 4) n (z_or taken (z_one (b : Int))) (score + z_one (n : Int)) (k_u1 T.1 (3 - n) (b : Int), T.2) else T) S).1 (3 - n) (-1), (k_fold 4 (fun b T => if z_bit (g_blk (σ 11) (σ 10 4) n taken score) (b : Int) = true then g_ext (σ 11) (σ 10 4) n (z_or taken (z_one (b : Int))) (score + z_one (n : Int)) (k_u1 T.1 (3 - n) (b : Int), T.2) else T) S).2)) (g_wr σ _ (by omega)) ?_
        refine k_callSr (st := []) (as := [.ref 10, .int (iI (part + 1)), .int (iI (taken)), .int (iI (score))]) dX4_extend_123 oX4_extend w_507 w_508 rfl (by omega) rfl (Nat.le_of_ble_eq_true rfl) (IH (part + 1) (taken) (score) _ (by omega) ⟨by omega, by omega⟩ ⟨by omega, by omega⟩ hTr) ?_
        exact k_retv dX4_extend_126 rfl rfl
      · intro i57 hi57 ih57
        have hTr := g_foldr (σ 11) (σ 10 4) n taken score S (by omega) hs.1 (by omega) hS i57
        have hb1 := g_blk_r hus (σ 10 4) n taken score
        refine k_iload dX4_extend_57 6 rfl ?_
        refine k_iconst (v := 4) dX4_extend_59 rfl ?_
        refine k_icmp_ge (tgt := 108) dX4_extend_60 rfl ⟨by omega, by omega⟩ ⟨by decide, by decide⟩ (fun h_2 => absurd h_2 (by omega)) (fun h_2 => ?_)
        refine k_iload dX4_extend_63 5 rfl ?_
        refine k_iload dX4_extend_65 6 rfl ?_
        refine k_callSNr (st := []) (as := [.int (iI (g_blk (σ 11) (σ 10 4) n taken score)), .int (iI ((i57 : Int)))]) dX4_extend_67 oX7_holds w_515 w_463 rfl (by omega) rfl (Nat.le_of_ble_eq_true rfl) (c_holds (by omega) (by omega)) ?_
        refine k_eqst (congrArg (fun z : Int => Value.int (iI z) :: []) (show zb (z_bit (g_blk (σ 11) (σ 10 4) n taken score) (i57 : Int) = true) = zb (0 ≤ ((i57 : Int)) ∧ ((i57 : Int)) < 16 ∧ z_bit (g_blk (σ 11) (σ 10 4) n taken score) ((i57 : Int)) = true) from (f_holds (by omega) (by omega)).symm)) ?_
        refine k_if_eq (tgt := 102) dX4_extend_70 rfl (zb_kr _) (fun h_3 => ?_) (fun h_3 => ?_)
        · have h_3 := zb_0.mp h_3
          refine k_iinc (ls' := [(0, .ref 10), (1, .int (iI (part))), (2, .int (iI (taken))), (3, .int (iI (score))), (4, .int (iI (w4))), (5, .int (iI (g_blk (σ 11) (σ 10 4) n taken score))), (6, .int (iI ((i57 : Int) + 1)))]) dX4_extend_102 6 rfl (by decide) rfl rfl ?_
          refine k_goto (tgt := 57) dX4_extend_105 rfl ?_
          refine k_eqσ (σ' := g_put σ (k_fold (i57 + 1) (fun b T => if z_bit (g_blk (σ 11) (σ 10 4) n taken score) (b : Int) = true then g_ext (σ 11) (σ 10 4) n (z_or taken (z_one (b : Int))) (score + z_one (n : Int)) (k_u1 T.1 (3 - n) (b : Int), T.2) else T) S)) (congrArg (g_put σ) (if_neg h_3)) ?_
          exact ih57
        · have h_3 := zb_n0.mp h_3
          refine k_aload_n dX4_extend_73 0 rfl rfl (by decide) ?_
          refine k_get (kf := 2) (v := .ref 12) dX4_extend_74 kcX4 w_195 (by decide) (by decide) (s_10 hsh) rfl rfl ?_
          refine k_iload_n dX4_extend_77 1 rfl rfl ?_
          refine k_iload dX4_extend_78 6 rfl ?_
          refine k_callSNr (st := []) (as := [.ref 12, .int (iI (part)), .int (iI ((i57 : Int)))]) dX4_extend_80 oX7_write w_497 w_498 rfl (by omega) rfl (Nat.le_of_ble_eq_true rfl) (c_writeIn (by decide) (s_12 hsh) (by decide) (by omega) (by omega)) ?_
          refine k_aload_n dX4_extend_83 0 rfl rfl (by decide) ?_
          refine k_iload_n dX4_extend_84 1 rfl rfl ?_
          refine k_iconst (v := 1) dX4_extend_85 rfl ?_
          refine k_iadd dX4_extend_86 ?_
          refine k_iload_n dX4_extend_87 2 rfl rfl ?_
          refine k_iconst (v := 1) dX4_extend_88 rfl ?_
          refine k_iload dX4_extend_89 6 rfl ?_
          refine k_ishl (v := (iI (z_one ((i57 : Int))))) dX4_extend_91 (z_oneI (by omega) (by omega)) ?_
          refine k_ior (v := (iI (z_or (taken) (z_one ((i57 : Int)))))) dX4_extend_92 (z_orI (by omega) (Int.le_of_lt (z_one_pos _))) ?_
          refine k_iload_n dX4_extend_93 3 rfl rfl ?_
          refine k_iload_n dX4_extend_94 1 rfl rfl ?_
          refine k_callSr (st := [.int (iI (score)), .int (iI (z_or (taken) (z_one ((i57 : Int))))), .int (iI (part + 1)), .ref 10]) (as := [.int (iI (part))]) dX4_extend_95 oX4_scoreOf w_500 w_501 rfl (by omega) rfl (Nat.le_of_ble_eq_true rfl) (c_scoreOf ⟨by omega, by omega⟩ (by omega)) ?_
          refine k_iadd dX4_extend_98 ?_
          refine k_eqst (congrArg (fun z : Int => [Value.int (iI z), .int (iI (z_or (taken) (z_one ((i57 : Int))))), .int (iI (part + 1)), .ref 10]) (show score + z_one (n : Int) = score + (z_one (3 - part)) from by rw [show (3 - part : Int) = (n : Int) by omega])) ?_
          refine k_eqσ (σ' := g_put σ (k_u1 (k_fold i57 (fun b T => if z_bit (g_blk (σ 11) (σ 10 4) n taken score) (b : Int) = true then g_ext (σ 11) (σ 10 4) n (z_or taken (z_one (b : Int))) (score + z_one (n : Int)) (k_u1 T.1 (3 - n) (b : Int), T.2) else T) S).1 (3 - n) (i57 : Int), (k_fold i57 (fun b T => if z_bit (g_blk (σ 11) (σ 10 4) n taken score) (b : Int) = true then g_ext (σ 11) (σ 10 4) n (z_or taken (z_one (b : Int))) (score + z_one (n : Int)) (k_u1 T.1 (3 - n) (b : Int), T.2) else T) S).2)) (g_wr σ _ (by omega)) ?_
          have hn1 := g_one_le (n := n) (by omega)
          have hn2 := z_or_nn taken (z_one (i57 : Int))
          have hn3 : z_or taken (z_one (i57 : Int)) < 16 := z_or_lt 4 (by omega) (z_one_lt 4 (by omega) (by omega))
          refine k_callSr (st := []) (as := [.ref 10, .int (iI (part + 1)), .int (iI (z_or (taken) (z_one ((i57 : Int))))), .int (iI (score + z_one (n : Int)))]) dX4_extend_99 oX4_extend w_507 w_508 rfl (by omega) rfl (Nat.le_of_ble_eq_true rfl) (IH (part + 1) (z_or (taken) (z_one ((i57 : Int)))) (score + z_one (n : Int)) _ (by omega) ⟨by omega, by omega⟩ ⟨by omega, by omega⟩ hTr) ?_
          refine k_eqσ (σ' := g_put σ (k_fold (i57 + 1) (fun b T => if z_bit (g_blk (σ 11) (σ 10 4) n taken score) (b : Int) = true then g_ext (σ 11) (σ 10 4) n (z_or taken (z_one (b : Int))) (score + z_one (n : Int)) (k_u1 T.1 (3 - n) (b : Int), T.2) else T) S)) (congrArg (g_put σ) (if_pos h_3)) ?_
          refine k_iinc (ls' := [(0, .ref 10), (1, .int (iI (part))), (2, .int (iI (taken))), (3, .int (iI (score))), (4, .int (iI (w4))), (5, .int (iI (g_blk (σ 11) (σ 10 4) n taken score))), (6, .int (iI ((i57 : Int) + 1)))]) dX4_extend_102 6 rfl (by decide) rfl rfl ?_
          refine k_goto (tgt := 57) dX4_extend_105 rfl ?_
          exact ih57
    refine k_iload_n dX4_extend_0 1 rfl rfl ?_
    refine k_iconst (v := 3) dX4_extend_1 rfl ?_
    refine k_icmp_le (tgt := 11) dX4_extend_2 rfl ⟨by omega, by omega⟩ ⟨by decide, by decide⟩ (fun h_4 => ?_) (fun h_4 => absurd h_4 (by omega))
    refine k_iload_n dX4_extend_11 1 rfl rfl ?_
    refine k_iconst (v := 3) dX4_extend_12 rfl ?_
    refine k_icmp_lt (tgt := 24) dX4_extend_13 rfl ⟨by omega, by omega⟩ ⟨by decide, by decide⟩ (fun h_5 => ?_) (fun h_5 => ?_)
    · refine k_iconst (v := 1) dX4_extend_24 rfl ?_
      refine k_goto (tgt := 29) dX4_extend_25 rfl ?_
      refine k_istore (ls' := [(0, .ref 10), (1, .int (iI (part))), (2, .int (iI (taken))), (3, .int (iI (score))), (4, .int (iI (1)))]) dX4_extend_29 (by decide) rfl rfl ?_
      refine k_iload dX4_extend_31 4 rfl ?_
      refine k_if_eq (tgt := 51) dX4_extend_33 rfl ⟨by decide, by decide⟩ (fun h_6 => absurd h_6 (by decide)) (fun h_6 => ?_)
      refine k_aload_n dX4_extend_36 0 rfl rfl (by decide) ?_
      refine k_get (kf := 1) (v := .ref 11) dX4_extend_37 kcX4 w_194 (by decide) (by decide) (s_10 hsh) rfl rfl ?_
      refine k_iload_n dX4_extend_40 1 rfl rfl ?_
      refine k_callSNr (st := []) (as := [.ref 11, .int (iI (part))]) dX4_extend_41 oX7_read w_474 w_460 rfl (by omega) rfl (Nat.le_of_ble_eq_true rfl) (c_readIn (by decide) (s_11 hsh) (by decide) (by omega) (by omega)) ?_
      have hb0 := hus part.toNat
      refine k_eqst (congrArg (fun z : Int => Value.int (iI z) :: []) (show σ 11 part.toNat = (g_put σ S) 11 (part).toNat from rfl)) ?_
      refine k_iload_n dX4_extend_44 2 rfl rfl ?_
      refine k_iconst (v := (-1)) dX4_extend_45 rfl ?_
      refine k_ixor (v := (iI (taken) ^^^ iI (-1))) dX4_extend_46 rfl ?_
      refine k_iand (v := (iI (z_diff (σ 11 part.toNat) (taken)))) dX4_extend_47 (z_diffI (by omega) (by omega) (by omega)) ?_
      refine k_goto (tgt := 52) dX4_extend_48 rfl ?_
      refine k_istore (ls' := [(0, .ref 10), (1, .int (iI (part))), (2, .int (iI (taken))), (3, .int (iI (score))), (4, .int (iI (1))), (5, .int (iI (z_diff (σ 11 part.toNat) (taken))))]) dX4_extend_52 (by decide) rfl rfl ?_
      refine k_lrw (q := 5) (j := 5) (a' := g_blk (σ 11) (σ 10 4) n taken score) (ls' := [(0, .ref 10), (1, .int (iI (part))), (2, .int (iI (taken))), (3, .int (iI (score))), (4, .int (iI (1))), (5, .int (iI (g_blk (σ 11) (σ 10 4) n taken score)))]) rfl (by rw [g_blk, if_pos (by omega), show (3 - n : Nat) = part.toNat by omega]) rfl ?_
      exact J54 _
    · refine k_iload_n dX4_extend_16 3 rfl rfl ?_
      refine k_aload_n dX4_extend_17 0 rfl rfl (by decide) ?_
      refine k_get (kf := 4) (v := .int (iI (σ 10 4))) dX4_extend_18 kcX4 w_197 (by decide) (by decide) (s_10 hsh) rfl rfl ?_
      refine k_icmp_ge (tgt := 28) dX4_extend_21 rfl ⟨by omega, by omega⟩ ⟨by omega, by omega⟩ (fun h_7 => ?_) (fun h_7 => ?_)
      · refine k_iconst (v := 0) dX4_extend_28 rfl ?_
        refine k_istore (ls' := [(0, .ref 10), (1, .int (iI (part))), (2, .int (iI (taken))), (3, .int (iI (score))), (4, .int (iI (0)))]) dX4_extend_29 (by decide) rfl rfl ?_
        refine k_iload dX4_extend_31 4 rfl ?_
        refine k_if_eq (tgt := 51) dX4_extend_33 rfl ⟨by decide, by decide⟩ (fun h_8 => ?_) (fun h_8 => absurd h_8 (by decide))
        refine k_iconst (v := 0) dX4_extend_51 rfl ?_
        refine k_istore (ls' := [(0, .ref 10), (1, .int (iI (part))), (2, .int (iI (taken))), (3, .int (iI (score))), (4, .int (iI (0))), (5, .int (iI (0)))]) dX4_extend_52 (by decide) rfl rfl ?_
        refine k_lrw (q := 5) (j := 5) (a' := g_blk (σ 11) (σ 10 4) n taken score) (ls' := [(0, .ref 10), (1, .int (iI (part))), (2, .int (iI (taken))), (3, .int (iI (score))), (4, .int (iI (0))), (5, .int (iI (g_blk (σ 11) (σ 10 4) n taken score)))]) rfl (by rw [g_blk, if_neg (by omega)]) rfl ?_
        exact J54 _
      · refine k_iconst (v := 1) dX4_extend_24 rfl ?_
        refine k_goto (tgt := 29) dX4_extend_25 rfl ?_
        refine k_istore (ls' := [(0, .ref 10), (1, .int (iI (part))), (2, .int (iI (taken))), (3, .int (iI (score))), (4, .int (iI (1)))]) dX4_extend_29 (by decide) rfl rfl ?_
        refine k_iload dX4_extend_31 4 rfl ?_
        refine k_if_eq (tgt := 51) dX4_extend_33 rfl ⟨by decide, by decide⟩ (fun h_9 => absurd h_9 (by decide)) (fun h_9 => ?_)
        refine k_aload_n dX4_extend_36 0 rfl rfl (by decide) ?_
        refine k_get (kf := 1) (v := .ref 11) dX4_extend_37 kcX4 w_194 (by decide) (by decide) (s_10 hsh) rfl rfl ?_
        refine k_iload_n dX4_extend_40 1 rfl rfl ?_
        refine k_callSNr (st := []) (as := [.ref 11, .int (iI (part))]) dX4_extend_41 oX7_read w_474 w_460 rfl (by omega) rfl (Nat.le_of_ble_eq_true rfl) (c_readIn (by decide) (s_11 hsh) (by decide) (by omega) (by omega)) ?_
        have hb0 := hus part.toNat
        refine k_eqst (congrArg (fun z : Int => Value.int (iI z) :: []) (show σ 11 part.toNat = (g_put σ S) 11 (part).toNat from rfl)) ?_
        refine k_iload_n dX4_extend_44 2 rfl rfl ?_
        refine k_iconst (v := (-1)) dX4_extend_45 rfl ?_
        refine k_ixor (v := (iI (taken) ^^^ iI (-1))) dX4_extend_46 rfl ?_
        refine k_iand (v := (iI (z_diff (σ 11 part.toNat) (taken)))) dX4_extend_47 (z_diffI (by omega) (by omega) (by omega)) ?_
        refine k_goto (tgt := 52) dX4_extend_48 rfl ?_
        refine k_istore (ls' := [(0, .ref 10), (1, .int (iI (part))), (2, .int (iI (taken))), (3, .int (iI (score))), (4, .int (iI (1))), (5, .int (iI (z_diff (σ 11 part.toNat) (taken))))]) dX4_extend_52 (by decide) rfl rfl ?_
        refine k_lrw (q := 5) (j := 5) (a' := g_blk (σ 11) (σ 10 4) n taken score) (ls' := [(0, .ref 10), (1, .int (iI (part))), (2, .int (iI (taken))), (3, .int (iI (score))), (4, .int (iI (1))), (5, .int (iI (g_blk (σ 11) (σ 10 4) n taken score)))]) rfl (by rw [g_blk, if_pos (by omega), show (3 - n : Nat) = part.toNat by omega]) rfl ?_
        exact J54 _
theorem z_shr1 {x : Int} (h : k_r x) : iI x >>> (iI 1 &&& 31) = iI (x / 2) := by
  have hs : ((iI 1 &&& 31).toBitVec.smod 32).toNat = 1 := by decide
  have h2 : k_r (x / 2) := ⟨by have := h.1; omega, by have := h.2; omega⟩
  apply Int32.toInt_inj.mp
  rw [pk_shr _ _ 1 hs, iI_toInt h, iI_toInt h2, Int.shiftRight_eq_div_pow]
  rfl
/-- what the searches' own cells hold -/
def k_Sc (σ : Nat → Nat → Int) : Prop := (∀ j, 0 ≤ σ 11 j ∧ σ 11 j < 16) ∧ (∀ j, -1 ≤ σ 12 j ∧ σ 12 j < 4) ∧ (∀ j, -1 ≤ σ 13 j ∧ σ 13 j < 4)
theorem f_useRN_r (hI : k_Ty σ) (hS : k_Sc σ) (p : Int) (n j : Nat) : 0 ≤ f_useRN σ p n j ∧ f_useRN σ p n j < 16 := by
  refine k_fold_inv (P := fun g : Nat → Int => 0 ≤ g j ∧ g j < 16) (hS.1 j) (fun r g h => ?_) n
  unfold k_u1
  split
  · exact f_useR_r hI p r
  · exact h
theorem u_roomy_11 (hI : k_Ty σ) (hS : k_Sc σ) (p : Int) (j : Nat) : 0 ≤ u_roomy σ p 11 j ∧ u_roomy σ p 11 j < 16 := by
  show 0 ≤ k_u1 (f_useRN σ p 3) 3 _ j ∧ k_u1 (f_useRN σ p 3) 3 _ j < 16
  unfold k_u1
  split
  · exact f_roomy_r σ hI _ _
  · exact f_useRN_r hI hS p 3 j
theorem u_roomy_pl (p : Int) : k_PlEq (u_roomy σ p) σ := (k_PlEq.refl.up (by decide)).up (by decide)
theorem u_roomy_sc (hI : k_Ty σ) (hS : k_Sc σ) (p : Int) : k_Sc (u_roomy σ p) := ⟨u_roomy_11 hI hS p, hS.2⟩
theorem u_roomy_104 (p : Int) : 0 ≤ u_roomy σ p 10 4 ∧ u_roomy σ p 10 4 ≤ 100 := by
  have h := f_fullN_r σ p 3 (by decide)
  show 0 ≤ f_fullN σ p 3 ∧ f_fullN σ p 3 ≤ 100
  omega
def f_best (σ : Nat → Nat → Int) : g_S := g_ext (σ 11) (σ 10 4) 4 0 0 (σ 12, σ 13, -1)
def u_best (σ : Nat → Nat → Int) : Nat → Nat → Int := g_put σ (f_best σ)
theorem f_best_r (σ : Nat → Nat → Int) : -1 ≤ (f_best σ).2.2 ∧ (f_best σ).2.2 ≤ 100 := g_ext_r _ _ 4 0 0 _ (by decide) (by decide) (by decide) ⟨Int.le_refl (-1), show (-1 : Int) ≤ 100 by decide⟩
def g_in (f : Nat → Int) : Prop := ∀ j, -1 ≤ f j ∧ f j < 4
theorem g_in_u1 {f : Nat → Int} {k : Nat} {v : Int} (h : g_in f) (hv : -1 ≤ v ∧ v < 4) : g_in (k_u1 f k v) := fun j => by
  unfold k_u1
  split
  · exact hv
  · exact h j
theorem g_ext_in (us : Nat → Int) (full : Int) : ∀ (n : Nat) (taken score : Int) (S : g_S), g_in S.1 → g_in S.2.1 → g_in (g_ext us full n taken score S).1 ∧ g_in (g_ext us full n taken score S).2.1
  | 0, taken, score, S, h1, h2 => by
    unfold g_ext
    split
    · exact ⟨h1, h1⟩
    · exact ⟨h1, h2⟩
  | n + 1, taken, score, S, h1, h2 => by
    unfold g_ext
    have hf : ∀ m, m ≤ 4 → g_in (k_fold m (fun b T => if z_bit (g_blk us full n taken score) (b : Int) = true then g_ext us full n (z_or taken (z_one (b : Int))) (score + z_one (n : Int)) (k_u1 T.1 (3 - n) (b : Int), T.2) else T) S).1 ∧ g_in (k_fold m (fun b T => if z_bit (g_blk us full n taken score) (b : Int) = true then g_ext us full n (z_or taken (z_one (b : Int))) (score + z_one (n : Int)) (k_u1 T.1 (3 - n) (b : Int), T.2) else T) S).2.1 := by
      intro m
      induction m with
      | zero => intro _; exact ⟨h1, h2⟩
      | succ b ih =>
        intro hb
        have ih := ih (by omega)
        show g_in (ite _ _ _ : g_S).1 ∧ g_in (ite _ _ _ : g_S).2.1
        split
        · exact g_ext_in us full n _ _ _ (g_in_u1 ih.1 ⟨by omega, by omega⟩) ih.2
        · exact ih
    have h4 := hf 4 (by decide)
    exact g_ext_in us full n _ _ _ (g_in_u1 h4.1 ⟨by decide, by decide⟩) h4.2
theorem f_best_in (hS : k_Sc σ) : g_in (f_best σ).1 ∧ g_in (f_best σ).2.1 := g_ext_in _ _ 4 0 0 _ hS.2.1 hS.2.2
theorem u_best_pl : k_PlEq (u_best σ) σ := ((k_PlEq.refl.up (by decide)).up (by decide)).up (by decide)
theorem u_best_sc (hS : k_Sc σ) : k_Sc (u_best σ) := ⟨hS.1, (f_best_in hS).1, (f_best_in hS).2⟩
set_option maxHeartbeats 4000000 in
theorem c_findBest (hsh : k_Main sh) (hus : ∀ j, 0 ≤ σ 11 j ∧ σ 11 j < 16) (hfu : 0 ≤ σ 10 4 ∧ σ 10 4 ≤ 100)  : k_C E mX4_findBest 9 [.ref 10] sh σ 0 0 (k_ret (some (.int (iI ((f_best σ).2.2 / 2)))) sh (u_best σ)) := by
  refine k_C_of (ls0 := [(0, .ref 10)]) rfl pnX4 (fun v hv => k_cat1 rfl hv) (Nat.le_of_ble_eq_true rfl) rfl ?_
  have q0 := f_best_r σ
  refine k_aload_n dX4_findBest_0 0 rfl rfl (by decide) ?_
  refine k_iconst (v := (-1)) dX4_findBest_1 rfl ?_
  refine k_putf (kf := 5) dX4_findBest_2 kcX4 w_198 (by decide) (by decide) (s_10 hsh) rfl rfl rfl rfl ?_
  refine k_aload_n dX4_findBest_5 0 rfl rfl (by decide) ?_
  refine k_iconst (v := 0) dX4_findBest_6 rfl ?_
  refine k_iconst (v := 0) dX4_findBest_7 rfl ?_
  refine k_iconst (v := 0) dX4_findBest_8 rfl ?_
  refine k_eqσ (σ' := g_put σ (σ 12, σ 13, -1)) (by funext i; by_cases e10 : i = 10; (· subst e10; rfl); by_cases e12 : i = 12; (· subst e12; rfl); by_cases e13 : i = 13; (· subst e13; rfl); simp [g_put, k_up, e10, e12, e13]) ?_
  refine k_callSr (st := []) (as := [.ref 10, .int (iI (0)), .int (iI (0)), .int (iI (0))]) dX4_findBest_9 oX4_extend w_507 w_508 rfl (by omega) rfl (Nat.le_of_ble_eq_true rfl) (c_extend hsh hus hfu 4 (by decide) 0 0 0 (σ 12, σ 13, -1) (by decide) ⟨by decide, by decide⟩ ⟨by decide, by decide⟩ ⟨Int.le_refl (-1), show (-1 : Int) ≤ 100 by decide⟩) ?_
  refine k_aload_n dX4_findBest_12 0 rfl rfl (by decide) ?_
  refine k_get (kf := 5) (v := .int (iI ((f_best σ).2.2))) dX4_findBest_13 kcX4 w_198 (by decide) (by decide) (s_10 hsh) rfl rfl ?_
  refine k_iconst (v := 1) dX4_findBest_16 rfl ?_
  refine k_ishr (v := (iI ((f_best σ).2.2 / 2))) dX4_findBest_17 (z_shr1 ⟨by omega, by omega⟩) ?_
  exact k_reti dX4_findBest_18 rfl rfl (by rfl)
set_option maxHeartbeats 4000000 in
theorem c_valueBySearch (hsh : k_Main sh) (hI : k_Ty σ) (hS : k_Sc σ) {p : Int} (hp : -2147483648 ≤ p ∧ p < 2147483648) (hp0 : 0 ≤ p ∧ p < 12) : k_C E mX4_valueBySearch 10 [.ref 10, .int (iI (p))] sh σ 0 0 (k_ret (some (.int (iI ((f_best (u_roomy σ p)).2.2 / 2)))) sh (u_best (u_roomy σ p))) := by
  refine k_C_of (ls0 := [(0, .ref 10), (1, .int (iI (p)))]) rfl pnX4 (fun v hv => k_cat1 rfl hv) (Nat.le_of_ble_eq_true rfl) rfl ?_
  obtain ⟨t0, t1, t2, t3, t4, t5, t6, t7, t8, t9, t10, t11⟩ := id hI
  refine k_aload_n dX4_valueBySearch_0 0 rfl rfl (by decide) ?_
  refine k_iload_n dX4_valueBySearch_1 1 rfl rfl ?_
  refine k_callVr (st := []) (as := [.int (iI (p))]) dX4_valueBySearch_2 oX4_collectRoomy w_470 w_472 w_1 rfl (by omega) rfl (Nat.le_of_ble_eq_true rfl) (by decide) (s_10 hsh) rfl (c_collectRoomy hsh hI ⟨by omega, by omega⟩ (by omega)) ?_
  refine k_aload_n dX4_valueBySearch_5 0 rfl rfl (by decide) ?_
  refine k_callVr (st := []) (as := []) dX4_valueBySearch_6 oX4_findBest w_503 w_505 w_2 rfl (by omega) rfl (Nat.le_of_ble_eq_true rfl) (by decide) (s_10 hsh) rfl (c_findBest hsh (u_roomy_11 hI hS p) (u_roomy_104 p)) ?_
  exact k_reti dX4_valueBySearch_9 rfl rfl (by rfl)
/-- the pupil entered into its wishes' classes -/
def u_giveN (σ : Nat → Nat → Int) (p : Int) (n : Nat) : Nat → Nat → Int := k_fold n (fun r τ => u_enter τ p (f_wish σ p (r : Int)) ((f_best (u_roomy σ p)).2.1 r)) (u_best (u_roomy σ p))
def u_give (σ : Nat → Nat → Int) (p : Int) : Nat → Nat → Int := u_enter (u_giveN σ p (σ 5 p.toNat).toNat) p (σ 7 p.toNat) ((f_best (u_roomy σ p)).2.1 3)
theorem u_giveN_ty (hI : k_Ty σ) {p : Int} (hp : 0 ≤ p ∧ p < 12) (n : Nat) : k_Ty (u_giveN σ p n) := by
  unfold u_giveN
  exact k_fold_inv (P := k_Ty) (u_best_pl.ty ((u_roomy_pl p).ty hI)) (fun _ _ h => u_enter_ty h hp) n
theorem u_giveN_ne (p : Int) (n : Nat) {i : Nat} (hi : i ≠ 4) : u_giveN σ p n i = u_best (u_roomy σ p) i := by
  unfold u_giveN
  exact k_fold_inv (P := fun τ : Nat → Nat → Int => τ i = u_best (u_roomy σ p) i) rfl (fun _ _ h => (u_enter_ne hi).trans h) n
set_option maxHeartbeats 4000000 in
theorem c_giveBest (hsh : k_Main sh) (hI : k_Ty σ) (hS : k_Sc σ) {p : Int} (hp : -2147483648 ≤ p ∧ p < 2147483648) (hp0 : 0 ≤ p ∧ p < 12) : k_C E mX4_giveBest 10 [.ref 10, .int (iI (p))] sh σ 0 0 (k_ret (some (.int (iI ((f_best (u_roomy σ p)).2.2 / 2)))) sh (u_give σ p)) := by
  refine k_C_of (ls0 := [(0, .ref 10), (1, .int (iI (p)))]) rfl pnX4 (fun v hv => k_cat1 rfl hv) (Nat.le_of_ble_eq_true rfl) rfl ?_
  obtain ⟨t0, t1, t2, t3, t4, t5, t6, t7, t8, t9, t10, t11⟩ := id hI
  have q9 := t6 p.toNat
  refine k_aload_n dX4_giveBest_0 0 rfl rfl (by decide) ?_
  refine k_iload_n dX4_giveBest_1 1 rfl rfl ?_
  refine k_callVr (st := []) (as := [.int (iI (p))]) dX4_giveBest_2 oX4_collectRoomy w_470 w_472 w_1 rfl (by omega) rfl (Nat.le_of_ble_eq_true rfl) (by decide) (s_10 hsh) rfl (c_collectRoomy hsh hI ⟨by omega, by omega⟩ (by omega)) ?_
  refine k_aload_n dX4_giveBest_5 0 rfl rfl (by decide) ?_
  refine k_callVr (st := []) (as := []) dX4_giveBest_6 oX4_findBest w_503 w_505 w_2 rfl (by omega) rfl (Nat.le_of_ble_eq_true rfl) (by decide) (s_10 hsh) rfl (c_findBest hsh (u_roomy_11 hI hS p) (u_roomy_104 p)) ?_
  refine k_istore_n (ls' := [(0, .ref 10), (1, .int (iI (p))), (2, .int (iI ((f_best (u_roomy σ p)).2.2 / 2)))]) dX4_giveBest_9 rfl (by decide) rfl rfl ?_
  refine k_aload_n dX4_giveBest_10 0 rfl rfl (by decide) ?_
  refine k_get (kf := 0) (v := .ref 1) dX4_giveBest_11 kcX4 w_193 (by decide) (by decide) (s_10 hsh) rfl rfl ?_
  refine k_getN (kf := 6) (v := .ref 5) dX4_giveBest_14 kcX5 w_147 (by decide) (by decide) (s_1 hsh) rfl rfl ?_
  refine k_iload_n dX4_giveBest_17 1 rfl rfl ?_
  refine k_callSNr (st := []) (as := [.ref 5, .int (iI (p))]) dX4_giveBest_18 oX7_read w_474 w_460 rfl (by omega) rfl (Nat.le_of_ble_eq_true rfl) (c_readIn (by decide) (s_5 hsh) (by decide) (by omega) (by omega)) ?_
  refine k_eqst (congrArg (fun z : Int => Value.int (iI z) :: []) (show σ 5 p.toNat = (u_best (u_roomy σ p)) 5 (p).toNat from rfl)) ?_
  refine k_istore_n (ls' := [(0, .ref 10), (1, .int (iI (p))), (2, .int (iI ((f_best (u_roomy σ p)).2.2 / 2))), (3, .int (iI (σ 5 p.toNat)))]) dX4_giveBest_21 rfl (by decide) rfl rfl ?_
  refine k_iconst (v := 0) dX4_giveBest_22 rfl ?_
  refine k_istore (ls' := [(0, .ref 10), (1, .int (iI (p))), (2, .int (iI ((f_best (u_roomy σ p)).2.2 / 2))), (3, .int (iI (σ 5 p.toNat))), (4, .int (iI (0)))]) dX4_giveBest_23 (by decide) rfl rfl ?_
  refine k_down (P := fun i25 : Nat => k_V E mX4_giveBest _ 25 [(0, .ref 10), (1, .int (iI (p))), (2, .int (iI ((f_best (u_roomy σ p)).2.2 / 2))), (3, .int (iI (σ 5 p.toNat))), (4, .int (iI ((i25 : Int))))] [] sh (u_giveN σ p i25) _ _ _) ((σ 5 p.toNat).toNat) ?_ ?_
  · skip
    have hT := u_giveN_ty hI hp0 ((σ 5 p.toNat).toNat)
    have q6 : u_giveN σ p ((σ 5 p.toNat).toNat) 6 = σ 6 := u_giveN_ne p _ (by decide)
    have q7 : u_giveN σ p ((σ 5 p.toNat).toNat) 7 = σ 7 := u_giveN_ne p _ (by decide)
    have q13 : u_giveN σ p ((σ 5 p.toNat).toNat) 13 = (f_best (u_roomy σ p)).2.1 := u_giveN_ne p _ (by decide)
    have q14 := (f_best_in (u_roomy_sc hI hS p)).2
    have q15 := q14 ((σ 5 p.toNat).toNat)
    have q16 := q14 3
    have q17 := f_wish_r hI p (((σ 5 p.toNat).toNat) : Int)
    have q18 := t6 p.toNat
    have q19 := t8 p.toNat
    refine k_iload dX4_giveBest_25 4 rfl ?_
    refine k_iload_n dX4_giveBest_27 3 rfl rfl ?_
    refine k_icmp_ge (tgt := 64) dX4_giveBest_28 rfl ⟨by omega, by omega⟩ ⟨by omega, by omega⟩ (fun h_1 => ?_) (fun h_1 => absurd h_1 (by omega))
    refine k_aload_n dX4_giveBest_64 0 rfl rfl (by decide) ?_
    refine k_get (kf := 0) (v := .ref 1) dX4_giveBest_65 kcX4 w_193 (by decide) (by decide) (s_10 hsh) rfl rfl ?_
    refine k_iload_n dX4_giveBest_68 1 rfl rfl ?_
    refine k_aload_n dX4_giveBest_69 0 rfl rfl (by decide) ?_
    refine k_get (kf := 0) (v := .ref 1) dX4_giveBest_70 kcX4 w_193 (by decide) (by decide) (s_10 hsh) rfl rfl ?_
    refine k_getN (kf := 8) (v := .ref 7) dX4_giveBest_73 kcX5 w_152 (by decide) (by decide) (s_1 hsh) rfl rfl ?_
    refine k_iload_n dX4_giveBest_76 1 rfl rfl ?_
    refine k_callSNr (st := [.int (iI (p)), .ref 1]) (as := [.ref 7, .int (iI (p))]) dX4_giveBest_77 oX7_read w_474 w_460 rfl (by omega) rfl (Nat.le_of_ble_eq_true rfl) (c_readIn (by decide) (s_7 hsh) (by decide) (by omega) (by omega)) ?_
    refine k_eqst (congrArg (fun z : Int => Value.int (iI z) :: [.int (iI (p)), .ref 1]) (show σ 7 p.toNat = (u_giveN σ p ((σ 5 p.toNat).toNat)) 7 (p).toNat from by rw [q7])) ?_
    refine k_aload_n dX4_giveBest_80 0 rfl rfl (by decide) ?_
    refine k_get (kf := 3) (v := .ref 13) dX4_giveBest_81 kcX4 w_196 (by decide) (by decide) (s_10 hsh) rfl rfl ?_
    refine k_iconst (v := 3) dX4_giveBest_84 rfl ?_
    refine k_callSNr (st := [.int (iI (σ 7 p.toNat)), .int (iI (p)), .ref 1]) (as := [.ref 13, .int (iI (3))]) dX4_giveBest_85 oX7_read w_474 w_460 rfl (by omega) rfl (Nat.le_of_ble_eq_true rfl) (c_readIn (by decide) (s_13 hsh) (by decide) (by omega) (by omega)) ?_
    refine k_eqst (congrArg (fun z : Int => Value.int (iI z) :: [.int (iI (σ 7 p.toNat)), .int (iI (p)), .ref 1]) (show (f_best (u_roomy σ p)).2.1 3 = (u_giveN σ p ((σ 5 p.toNat).toNat)) 13 3 from by rw [q13])) ?_
    refine k_callVr (st := []) (as := [.int (iI (p)), .int (iI (σ 7 p.toNat)), .int (iI ((f_best (u_roomy σ p)).2.1 3))]) dX4_giveBest_88 oX5_enter w_516 w_517 w_518 rfl (by omega) rfl (Nat.le_of_ble_eq_true rfl) (by decide) (s_1 hsh) rfl (c_enter hsh hT ⟨by omega, by omega⟩ ⟨by omega, by omega⟩ ⟨by omega, by omega⟩ (by omega)) ?_
    refine k_iload_n dX4_giveBest_91 2 rfl rfl ?_
    exact k_reti dX4_giveBest_92 rfl rfl (by rfl)
  · intro i25 hi25 ih25
    have hT := u_giveN_ty hI hp0 i25
    have q6 : u_giveN σ p i25 6 = σ 6 := u_giveN_ne p _ (by decide)
    have q7 : u_giveN σ p i25 7 = σ 7 := u_giveN_ne p _ (by decide)
    have q13 : u_giveN σ p i25 13 = (f_best (u_roomy σ p)).2.1 := u_giveN_ne p _ (by decide)
    have q14 := (f_best_in (u_roomy_sc hI hS p)).2
    have q15 := q14 i25
    have q16 := q14 3
    have q17 := f_wish_r hI p (i25 : Int)
    have q18 := t6 p.toNat
    have q19 := t8 p.toNat
    refine k_iload dX4_giveBest_25 4 rfl ?_
    refine k_iload_n dX4_giveBest_27 3 rfl rfl ?_
    refine k_icmp_ge (tgt := 64) dX4_giveBest_28 rfl ⟨by omega, by omega⟩ ⟨by omega, by omega⟩ (fun h_2 => absurd h_2 (by omega)) (fun h_2 => ?_)
    refine k_aload_n dX4_giveBest_31 0 rfl rfl (by decide) ?_
    refine k_get (kf := 0) (v := .ref 1) dX4_giveBest_32 kcX4 w_193 (by decide) (by decide) (s_10 hsh) rfl rfl ?_
    refine k_iload_n dX4_giveBest_35 1 rfl rfl ?_
    refine k_aload_n dX4_giveBest_36 0 rfl rfl (by decide) ?_
    refine k_get (kf := 0) (v := .ref 1) dX4_giveBest_37 kcX4 w_193 (by decide) (by decide) (s_10 hsh) rfl rfl ?_
    refine k_iload_n dX4_giveBest_40 1 rfl rfl ?_
    refine k_iload dX4_giveBest_41 4 rfl ?_
    refine k_callVr (st := [.int (iI (p)), .ref 1]) (as := [.int (iI (p)), .int (iI ((i25 : Int)))]) dX4_giveBest_43 oX5_wish w_475 w_476 w_477 rfl (by omega) rfl (Nat.le_of_ble_eq_true rfl) (by decide) (s_1 hsh) rfl (c_wish hsh hT ⟨by omega, by omega⟩ ⟨by omega, by omega⟩ (by omega)) ?_
    refine k_eqst (congrArg (fun z : Int => Value.int (iI z) :: [.int (iI (p)), .ref 1]) (show f_wish σ p (i25 : Int) = f_wish (u_giveN σ p i25) p ((i25 : Int)) from by unfold f_wish; rw [q6])) ?_
    refine k_aload_n dX4_giveBest_46 0 rfl rfl (by decide) ?_
    refine k_get (kf := 3) (v := .ref 13) dX4_giveBest_47 kcX4 w_196 (by decide) (by decide) (s_10 hsh) rfl rfl ?_
    refine k_iload dX4_giveBest_50 4 rfl ?_
    refine k_callSNr (st := [.int (iI (f_wish σ p (i25 : Int))), .int (iI (p)), .ref 1]) (as := [.ref 13, .int (iI ((i25 : Int)))]) dX4_giveBest_52 oX7_read w_474 w_460 rfl (by omega) rfl (Nat.le_of_ble_eq_true rfl) (c_readIn (by decide) (s_13 hsh) (by decide) (by omega) (by omega)) ?_
    refine k_eqst (congrArg (fun z : Int => Value.int (iI z) :: [.int (iI (f_wish σ p (i25 : Int))), .int (iI (p)), .ref 1]) (show (f_best (u_roomy σ p)).2.1 i25 = (u_giveN σ p i25) 13 ((i25 : Int)).toNat from by rw [q13]; rfl)) ?_
    refine k_callVr (st := []) (as := [.int (iI (p)), .int (iI (f_wish σ p (i25 : Int))), .int (iI ((f_best (u_roomy σ p)).2.1 i25))]) dX4_giveBest_55 oX5_enter w_516 w_517 w_518 rfl (by omega) rfl (Nat.le_of_ble_eq_true rfl) (by decide) (s_1 hsh) rfl (c_enter hsh hT ⟨by omega, by omega⟩ ⟨by omega, by omega⟩ ⟨by omega, by omega⟩ (by omega)) ?_
    refine k_iinc (ls' := [(0, .ref 10), (1, .int (iI (p))), (2, .int (iI ((f_best (u_roomy σ p)).2.2 / 2))), (3, .int (iI (σ 5 p.toNat))), (4, .int (iI ((i25 : Int) + 1)))]) dX4_giveBest_58 4 rfl (by decide) rfl rfl ?_
    refine k_goto (tgt := 25) dX4_giveBest_61 rfl ?_
    exact ih25
end K_N
