/-! ===== ARRANGEMENTS ===== -/
section K_T
variable {E : k_E} {sh : List k_Sh} {σ : Nat → Nat → Int}
/-- 19 the pairs' wishers, 20 what is tried, 21 the best, 22 what each block adds -/
def k_Ar (σ : Nat → Nat → Int) : Prop := (∀ j, 0 ≤ σ 19 j ∧ σ 19 j ≤ 12) ∧ (∀ j, 0 ≤ σ 20 j ∧ σ 20 j < 4) ∧ (∀ j, 0 ≤ σ 21 j ∧ σ 21 j < 4) ∧ (∀ j, 0 ≤ σ 22 j ∧ σ 22 j ≤ 84)
def g_pairI (w : Int) (s : Nat) (n : Nat) (g : Nat → Int) : Nat → Int := k_fold n (fun o g => if z_bit w (s : Int) = true ∧ z_bit w (o : Int) = true then k_u1 g ((s : Int) * 7 + (o : Int)).toNat (g ((s : Int) * 7 + (o : Int)).toNat + 1) else g) g
def g_pairs (w : Int) (n : Nat) (g : Nat → Int) : Nat → Int := k_fold n (fun s g => g_pairI w s 7 g) g
def g_zero (n : Nat) (g : Nat → Int) : Nat → Int := k_fold n (fun c g => k_u1 g c 0) g
def g_comm (σ : Nat → Nat → Int) (n : Nat) : Nat → Int := k_fold n (fun p g => g_pairs (f_wishSet σ (p : Int)) 7 g) (g_zero 49 (σ 19))
def u_comm (σ : Nat → Nat → Int) : Nat → Nat → Int := k_up σ 19 (g_comm σ (σ 1 2).toNat)
/-- what the blocks add for the subject s -/
def g_wz (s : Int) (n : Nat) (ad : Nat → Int) : Nat → Int := k_fold n (fun b g => k_u1 g (s * 4 + (b : Int)).toNat 0) ad
def g_ww (cm tr : Nat → Int) (s : Int) (n : Nat) (ad : Nat → Int) : Nat → Int := k_fold n (fun o g => k_u1 g (s * 4 + tr o).toNat (g (s * 4 + tr o).toNat + cm (s * 7 + (o : Int)).toNat)) ad
def g_weigh (cm tr : Nat → Int) (s : Int) (ad : Nat → Int) : Nat → Int := g_ww cm tr s s.toNat (g_wz s 4 ad)
theorem g_wz_r {s : Int} {ad : Nat → Int} (hs : 0 ≤ s) (h : ∀ j, 0 ≤ ad j ∧ ad j ≤ 84) : ∀ n : Nat, (∀ j, 0 ≤ g_wz s n ad j ∧ g_wz s n ad j ≤ 84) ∧ ∀ j : Nat, s * 4 ≤ j → (j : Int) < s * 4 + n → g_wz s n ad j = 0
  | 0 => ⟨h, fun j h1 h2 => by omega⟩
  | n + 1 => by
    obtain ⟨i1, i2⟩ := g_wz_r hs h n
    have e : g_wz s (n + 1) ad = k_u1 (g_wz s n ad) (s * 4 + (n : Int)).toNat 0 := rfl
    rw [e]
    refine ⟨fun j => ?_, fun j h1 h2 => ?_⟩
    · unfold k_u1
      split
      · decide
      · exact i1 j
    · unfold k_u1
      split
      · rfl
      · exact i2 j h1 (by omega)
theorem g_ww_r {cm tr : Nat → Int} {s : Int} {ad : Nat → Int} (hs : 0 ≤ s ∧ s ≤ 7) (hc : ∀ j, 0 ≤ cm j ∧ cm j ≤ 12) (ht : ∀ j, 0 ≤ tr j ∧ tr j < 4) (h : (∀ j, 0 ≤ ad j ∧ ad j ≤ 84) ∧ ∀ j : Nat, s * 4 ≤ j → (j : Int) < s * 4 + 4 → ad j = 0) : ∀ n : Nat, (n : Int) ≤ s → (∀ j, 0 ≤ g_ww cm tr s n ad j ∧ g_ww cm tr s n ad j ≤ 84) ∧ ∀ j : Nat, s * 4 ≤ j → (j : Int) < s * 4 + 4 → g_ww cm tr s n ad j ≤ 12 * n
  | 0, _ => ⟨h.1, fun j h1 h2 => by rw [show g_ww cm tr s 0 ad = ad from rfl, h.2 j h1 h2]; decide⟩
  | n + 1, hn => by
    obtain ⟨i1, i2⟩ := g_ww_r hs hc ht h n (by omega)
    have ht := ht n
    have hc := hc (s * 7 + (n : Int)).toNat
    have h3 := i2 (s * 4 + tr n).toNat (by omega) (by omega)
    have h4 := i1 (s * 4 + tr n).toNat
    have e : g_ww cm tr s (n + 1) ad = k_u1 (g_ww cm tr s n ad) (s * 4 + tr n).toNat (g_ww cm tr s n ad (s * 4 + tr n).toNat + cm (s * 7 + (n : Int)).toNat) := rfl
    rw [e]
    refine ⟨fun j => ?_, fun j h1 h2 => ?_⟩
    · unfold k_u1
      split
      · omega
      · exact i1 j
    · unfold k_u1
      split
      · omega
      · have := i2 j h1 h2
        omega
theorem g_weigh_r {cm tr : Nat → Int} {s : Int} {ad : Nat → Int} (hs : 0 ≤ s ∧ s ≤ 7) (hc : ∀ j, 0 ≤ cm j ∧ cm j ≤ 12) (ht : ∀ j, 0 ≤ tr j ∧ tr j < 4) (h : ∀ j, 0 ≤ ad j ∧ ad j ≤ 84) : ∀ j, 0 ≤ g_weigh cm tr s ad j ∧ g_weigh cm tr s ad j ≤ 84 := by
  have h1 := g_wz_r hs.1 h 4
  exact (g_ww_r hs hc ht h1 s.toNat (by omega)).1

set_option maxHeartbeats 4000000 in
theorem c_weigh (hsh : k_Main sh) {s : Int} (hs : -2147483648 ≤ s ∧ s < 2147483648) (hA : k_Ar σ) (hs0 : 0 ≤ s ∧ s < 7) : k_C E mX0_weigh 2 [.ref 18, .int (iI (s))] sh σ 0 0 (k_ret none sh (k_up σ 22 (g_weigh (σ 19) (σ 20) s (σ 22)))) := by
  refine k_C_of (ls0 := [(0, .ref 18), (1, .int (iI (s)))]) rfl pnX0 (fun v hv => k_cat1 rfl hv) (Nat.le_of_ble_eq_true rfl) rfl ?_
  obtain ⟨c0, c1, c2, c3⟩ := id hA
  have hs7 := hs0.2
  have hs0 : 0 ≤ s ∧ s ≤ 7 := ⟨hs0.1, by omega⟩
  refine k_iload_n dX0_weigh_0 1 rfl rfl ?_
  refine k_iconst (v := 4) dX0_weigh_1 rfl ?_
  refine k_imul dX0_weigh_2 ?_
  refine k_istore_n (ls' := [(0, .ref 18), (1, .int (iI (s))), (2, .int (iI (s * 4)))]) dX0_weigh_3 rfl (by decide) rfl rfl ?_
  refine k_iconst (v := 0) dX0_weigh_4 rfl ?_
  refine k_istore_n (ls' := [(0, .ref 18), (1, .int (iI (s))), (2, .int (iI (s * 4))), (3, .int (iI (0)))]) dX0_weigh_5 rfl (by decide) rfl rfl ?_
  refine k_eqσ (σ' := (k_up σ 22 (g_wz s 0 (σ 22)))) (k_up_self _ 22) ?_
  refine k_down (P := fun i6 : Nat => k_V E mX0_weigh _ 6 [(0, .ref 18), (1, .int (iI (s))), (2, .int (iI (s * 4))), (3, .int (iI ((i6 : Int))))] [] sh (k_up σ 22 (g_wz s i6 (σ 22))) _ _ _) (4) ?_ ?_
  · skip
    refine k_iload_n dX0_weigh_6 3 rfl rfl ?_
    refine k_iconst (v := 4) dX0_weigh_7 rfl ?_
    refine k_icmp_ge (tgt := 28) dX0_weigh_8 rfl ⟨by omega, by omega⟩ ⟨by decide, by decide⟩ (fun h_1 => ?_) (fun h_1 => absurd h_1 (by omega))
    refine k_iconst (v := 0) dX0_weigh_28 rfl ?_
    refine k_istore_n (ls' := [(0, .ref 18), (1, .int (iI (s))), (2, .int (iI (s * 4))), (3, .int (iI (0)))]) dX0_weigh_29 rfl (by decide) rfl rfl ?_
    refine k_eqσ (σ' := (k_up σ 22 (g_ww (σ 19) (σ 20) s 0 (g_wz s 4 (σ 22))))) (rfl) ?_
    refine k_down (P := fun i30 : Nat => k_V E mX0_weigh _ 30 [(0, .ref 18), (1, .int (iI (s))), (2, .int (iI (s * 4))), (3, .int (iI ((i30 : Int))))] [] sh (k_up σ 22 (g_ww (σ 19) (σ 20) s i30 (g_wz s 4 (σ 22)))) _ _ _) (s.toNat) ?_ ?_
    · skip
      have q1 := g_ww_r hs0 c0 c1 (g_wz_r hs0.1 c3 4) (s.toNat) (by omega)
      refine k_iload_n dX0_weigh_30 3 rfl rfl ?_
      refine k_iload_n dX0_weigh_31 1 rfl rfl ?_
      refine k_icmp_ge (tgt := 85) dX0_weigh_32 rfl ⟨by omega, by omega⟩ ⟨by omega, by omega⟩ (fun h_2 => ?_) (fun h_2 => absurd h_2 (by omega))
      exact k_retv dX0_weigh_85 rfl rfl
    · intro i30 hi30 ih30
      have q1 := g_ww_r hs0 c0 c1 (g_wz_r hs0.1 c3 4) i30 (by omega)
      have q2 := c1 i30
      have q3 := c0 (s * 7 + (i30 : Int)).toNat
      have q4 := q1.1 (s * 4 + σ 20 i30).toNat
      refine k_iload_n dX0_weigh_30 3 rfl rfl ?_
      refine k_iload_n dX0_weigh_31 1 rfl rfl ?_
      refine k_icmp_ge (tgt := 85) dX0_weigh_32 rfl ⟨by omega, by omega⟩ ⟨by omega, by omega⟩ (fun h_3 => absurd h_3 (by omega)) (fun h_3 => ?_)
      refine k_iload_n dX0_weigh_35 2 rfl rfl ?_
      refine k_aload_n dX0_weigh_36 0 rfl rfl (by decide) ?_
      refine k_get (kf := 2) (v := .ref 20) dX0_weigh_37 kcX0 w_239 (by decide) (by decide) (s_18 hsh) rfl rfl ?_
      refine k_iload_n dX0_weigh_40 3 rfl rfl ?_
      refine k_callSNr (st := [.int (iI (s * 4))]) (as := [.ref 20, .int (iI ((i30 : Int)))]) dX0_weigh_41 oX7_read w_577 w_460 rfl (by omega) rfl (Nat.le_of_ble_eq_true rfl) (c_readIn (by decide) (s_20 hsh) (by decide) (by omega) (by omega)) ?_
      refine k_eqst (congrArg (fun z : Int => Value.int (iI z) :: [.int (iI (s * 4))]) (show σ 20 i30 = (k_up σ 22 (g_ww (σ 19) (σ 20) s i30 (g_wz s 4 (σ 22)))) 20 ((i30 : Int)).toNat from rfl)) ?_
      refine k_iadd dX0_weigh_44 ?_
      refine k_istore (ls' := [(0, .ref 18), (1, .int (iI (s))), (2, .int (iI (s * 4))), (3, .int (iI ((i30 : Int)))), (4, .int (iI ((s * 4) + (σ 20 i30))))]) dX0_weigh_45 (by decide) rfl rfl ?_
      refine k_aload_n dX0_weigh_47 0 rfl rfl (by decide) ?_
      refine k_get (kf := 4) (v := .ref 22) dX0_weigh_48 kcX0 w_241 (by decide) (by decide) (s_18 hsh) rfl rfl ?_
      refine k_iload dX0_weigh_51 4 rfl ?_
      refine k_aload_n dX0_weigh_53 0 rfl rfl (by decide) ?_
      refine k_get (kf := 4) (v := .ref 22) dX0_weigh_54 kcX0 w_241 (by decide) (by decide) (s_18 hsh) rfl rfl ?_
      refine k_iload dX0_weigh_57 4 rfl ?_
      refine k_callSNr (st := [.int (iI ((s * 4) + (σ 20 i30))), .ref 22]) (as := [.ref 22, .int (iI ((s * 4) + (σ 20 i30)))]) dX0_weigh_59 oX7_read w_577 w_460 rfl (by omega) rfl (Nat.le_of_ble_eq_true rfl) (c_readIn (by decide) (s_22 hsh) (by decide) (by omega) (by omega)) ?_
      refine k_eqst (congrArg (fun z : Int => Value.int (iI z) :: [.int (iI ((s * 4) + (σ 20 i30))), .ref 22]) (show g_ww (σ 19) (σ 20) s i30 (g_wz s 4 (σ 22)) (s * 4 + σ 20 i30).toNat = (k_up σ 22 (g_ww (σ 19) (σ 20) s i30 (g_wz s 4 (σ 22)))) 22 ((s * 4) + (σ 20 i30)).toNat from rfl)) ?_
      refine k_aload_n dX0_weigh_62 0 rfl rfl (by decide) ?_
      refine k_get (kf := 1) (v := .ref 19) dX0_weigh_63 kcX0 w_238 (by decide) (by decide) (s_18 hsh) rfl rfl ?_
      refine k_iload_n dX0_weigh_66 1 rfl rfl ?_
      refine k_bipush (v := 7) dX0_weigh_67 (by decide) ?_
      refine k_imul dX0_weigh_69 ?_
      refine k_iload_n dX0_weigh_70 3 rfl rfl ?_
      refine k_iadd dX0_weigh_71 ?_
      refine k_callSNr (st := [.int (iI (g_ww (σ 19) (σ 20) s i30 (g_wz s 4 (σ 22)) (s * 4 + σ 20 i30).toNat)), .int (iI ((s * 4) + (σ 20 i30))), .ref 22]) (as := [.ref 19, .int (iI ((s * 7) + ((i30 : Int))))]) dX0_weigh_72 oX7_read w_577 w_460 rfl (by omega) rfl (Nat.le_of_ble_eq_true rfl) (c_readIn (by decide) (s_19 hsh) (by decide) (by omega) (by omega)) ?_
      refine k_eqst (congrArg (fun z : Int => Value.int (iI z) :: [.int (iI (g_ww (σ 19) (σ 20) s i30 (g_wz s 4 (σ 22)) (s * 4 + σ 20 i30).toNat)), .int (iI ((s * 4) + (σ 20 i30))), .ref 22]) (show σ 19 (s * 7 + (i30 : Int)).toNat = (k_up σ 22 (g_ww (σ 19) (σ 20) s i30 (g_wz s 4 (σ 22)))) 19 ((s * 7) + ((i30 : Int))).toNat from rfl)) ?_
      refine k_iadd dX0_weigh_75 ?_
      refine k_callSNr (st := []) (as := [.ref 22, .int (iI ((s * 4) + (σ 20 i30))), .int (iI ((g_ww (σ 19) (σ 20) s i30 (g_wz s 4 (σ 22)) (s * 4 + σ 20 i30).toNat) + (σ 19 (s * 7 + (i30 : Int)).toNat)))]) dX0_weigh_76 oX7_write w_570 w_498 rfl (by omega) rfl (Nat.le_of_ble_eq_true rfl) (c_writeIn (by decide) (s_22 hsh) (by decide) (by omega) (by omega)) ?_
      refine k_iinc (ls' := [(0, .ref 18), (1, .int (iI (s))), (2, .int (iI (s * 4))), (3, .int (iI ((i30 : Int) + 1))), (4, .int (iI ((s * 4) + (σ 20 i30))))]) dX0_weigh_79 3 rfl (by decide) rfl rfl ?_
      refine k_goto (tgt := 30) dX0_weigh_82 rfl ?_
      refine k_eqσ (σ' := (k_up σ 22 (g_ww (σ 19) (σ 20) s (i30 + 1) (g_wz s 4 (σ 22))))) (by funext i; by_cases e22 : i = 22; (· subst e22; rfl); simp [k_up, e22]) ?_
      refine k_dropr (ls' := [(0, .ref 18), (1, .int (iI (s))), (2, .int (iI (s * 4))), (3, .int (iI ((i30 : Int) + 1)))]) (ex := [(4, .int (iI ((s * 4) + (σ 20 i30))))]) rfl ?_
      exact ih30
  · intro i6 hi6 ih6
    refine k_iload_n dX0_weigh_6 3 rfl rfl ?_
    refine k_iconst (v := 4) dX0_weigh_7 rfl ?_
    refine k_icmp_ge (tgt := 28) dX0_weigh_8 rfl ⟨by omega, by omega⟩ ⟨by decide, by decide⟩ (fun h_4 => absurd h_4 (by omega)) (fun h_4 => ?_)
    refine k_aload_n dX0_weigh_11 0 rfl rfl (by decide) ?_
    refine k_get (kf := 4) (v := .ref 22) dX0_weigh_12 kcX0 w_241 (by decide) (by decide) (s_18 hsh) rfl rfl ?_
    refine k_iload_n dX0_weigh_15 2 rfl rfl ?_
    refine k_iload_n dX0_weigh_16 3 rfl rfl ?_
    refine k_iadd dX0_weigh_17 ?_
    refine k_iconst (v := 0) dX0_weigh_18 rfl ?_
    refine k_callSNr (st := []) (as := [.ref 22, .int (iI ((s * 4) + ((i6 : Int)))), .int (iI (0))]) dX0_weigh_19 oX7_write w_570 w_498 rfl (by omega) rfl (Nat.le_of_ble_eq_true rfl) (c_writeIn (by decide) (s_22 hsh) (by decide) (by omega) (by omega)) ?_
    refine k_iinc (ls' := [(0, .ref 18), (1, .int (iI (s))), (2, .int (iI (s * 4))), (3, .int (iI ((i6 : Int) + 1)))]) dX0_weigh_22 3 rfl (by decide) rfl rfl ?_
    refine k_goto (tgt := 6) dX0_weigh_25 rfl ?_
    refine k_eqσ (σ' := (k_up σ 22 (g_wz s (i6 + 1) (σ 22)))) (by funext i; by_cases e22 : i = 22; (· subst e22; rfl); simp [k_up, e22]) ?_
    exact ih6
set_option maxHeartbeats 4000000 in
theorem c_countPairs (hsh : k_Main sh) {w : Int} (hw : -2147483648 ≤ w ∧ w < 2147483648) (hw0 : 0 ≤ w ∧ w < 65536) : k_C E mX0_countPairs 2 [.ref 18, .int (iI (w))] sh σ 0 0 (k_ret none sh (k_up σ 19 (g_pairs w 7 (σ 19)))) := by
  refine k_C_of (ls0 := [(0, .ref 18), (1, .int (iI (w)))]) rfl pnX0 (fun v hv => k_cat1 rfl hv) (Nat.le_of_ble_eq_true rfl) rfl ?_
  refine k_iconst (v := 0) dX0_countPairs_0 rfl ?_
  refine k_istore_n (ls' := [(0, .ref 18), (1, .int (iI (w))), (2, .int (iI (0)))]) dX0_countPairs_1 rfl (by decide) rfl rfl ?_
  refine k_eqσ (σ' := (k_up σ 19 (g_pairs w 0 (σ 19)))) (k_up_self _ 19) ?_
  refine k_down (P := fun i2 : Nat => k_V E mX0_countPairs _ 2 [(0, .ref 18), (1, .int (iI (w))), (2, .int (iI ((i2 : Int))))] [] sh (k_up σ 19 (g_pairs w i2 (σ 19))) _ _ _) (7) ?_ ?_
  · skip
    refine k_iload_n dX0_countPairs_2 2 rfl rfl ?_
    refine k_bipush (v := 7) dX0_countPairs_3 (by decide) ?_
    refine k_icmp_ge (tgt := 72) dX0_countPairs_5 rfl ⟨by omega, by omega⟩ ⟨by decide, by decide⟩ (fun h_1 => ?_) (fun h_1 => absurd h_1 (by omega))
    exact k_retv dX0_countPairs_72 rfl rfl
  · intro i2 hi2 ih2
    refine k_iload_n dX0_countPairs_2 2 rfl rfl ?_
    refine k_bipush (v := 7) dX0_countPairs_3 (by decide) ?_
    refine k_icmp_ge (tgt := 72) dX0_countPairs_5 rfl ⟨by omega, by omega⟩ ⟨by decide, by decide⟩ (fun h_2 => absurd h_2 (by omega)) (fun h_2 => ?_)
    refine k_iconst (v := 0) dX0_countPairs_8 rfl ?_
    refine k_istore_n (ls' := [(0, .ref 18), (1, .int (iI (w))), (2, .int (iI ((i2 : Int)))), (3, .int (iI (0)))]) dX0_countPairs_9 rfl (by decide) rfl rfl ?_
    refine k_eqσ (σ' := (k_up σ 19 (g_pairI w i2 0 (g_pairs w i2 (σ 19))))) (rfl) ?_
    refine k_down (P := fun i10 : Nat => k_V E mX0_countPairs _ 10 [(0, .ref 18), (1, .int (iI (w))), (2, .int (iI ((i2 : Int)))), (3, .int (iI ((i10 : Int))))] [] sh (k_up σ 19 (g_pairI w i2 i10 (g_pairs w i2 (σ 19)))) _ _ _) (7) ?_ ?_
    · skip
      refine k_iload_n dX0_countPairs_10 3 rfl rfl ?_
      refine k_bipush (v := 7) dX0_countPairs_11 (by decide) ?_
      refine k_icmp_ge (tgt := 66) dX0_countPairs_13 rfl ⟨by omega, by omega⟩ ⟨by decide, by decide⟩ (fun h_3 => ?_) (fun h_3 => absurd h_3 (by omega))
      refine k_iinc (ls' := [(0, .ref 18), (1, .int (iI (w))), (2, .int (iI ((i2 : Int) + 1))), (3, .int (iI (((7 : Nat) : Int))))]) dX0_countPairs_66 2 rfl (by decide) rfl rfl ?_
      refine k_goto (tgt := 2) dX0_countPairs_69 rfl ?_
      refine k_eqσ (σ' := (k_up σ 19 (g_pairs w (i2 + 1) (σ 19)))) (rfl) ?_
      refine k_dropr (ls' := [(0, .ref 18), (1, .int (iI (w))), (2, .int (iI ((i2 : Int) + 1)))]) (ex := [(3, .int (iI (((7 : Nat) : Int))))]) rfl ?_
      exact ih2
    · intro i10 hi10 ih10
      refine k_iload_n dX0_countPairs_10 3 rfl rfl ?_
      refine k_bipush (v := 7) dX0_countPairs_11 (by decide) ?_
      refine k_icmp_ge (tgt := 66) dX0_countPairs_13 rfl ⟨by omega, by omega⟩ ⟨by decide, by decide⟩ (fun h_4 => absurd h_4 (by omega)) (fun h_4 => ?_)
      refine k_iload_n dX0_countPairs_16 1 rfl rfl ?_
      refine k_iload_n dX0_countPairs_17 2 rfl rfl ?_
      refine k_callSNr (st := []) (as := [.int (iI (w)), .int (iI ((i2 : Int)))]) dX0_countPairs_18 oX7_holds w_576 w_463 rfl (by omega) rfl (Nat.le_of_ble_eq_true rfl) (c_holds (by omega) (by omega)) ?_
      refine k_eqst (congrArg (fun z : Int => Value.int (iI z) :: []) (show zb (z_bit (w) ((i2 : Int)) = true) = zb (0 ≤ ((i2 : Int)) ∧ ((i2 : Int)) < 16 ∧ z_bit (w) ((i2 : Int)) = true) from (f_holds (by omega) (by omega)).symm)) ?_
      refine k_if_eq (tgt := 60) dX0_countPairs_21 rfl (zb_kr _) (fun h_5 => ?_) (fun h_5 => ?_)
      · have h_5 := zb_0.mp h_5
        refine k_iinc (ls' := [(0, .ref 18), (1, .int (iI (w))), (2, .int (iI ((i2 : Int)))), (3, .int (iI ((i10 : Int) + 1)))]) dX0_countPairs_60 3 rfl (by decide) rfl rfl ?_
        refine k_goto (tgt := 10) dX0_countPairs_63 rfl ?_
        refine k_eqσ (σ' := (k_up σ 19 (g_pairI w i2 (i10 + 1) (g_pairs w i2 (σ 19))))) (congrArg (k_up σ 19) (if_neg (fun q => h_5 q.1))) ?_
        exact ih10
      · have h_5 := zb_n0.mp h_5
        refine k_iload_n dX0_countPairs_24 1 rfl rfl ?_
        refine k_iload_n dX0_countPairs_25 3 rfl rfl ?_
        refine k_callSNr (st := []) (as := [.int (iI (w)), .int (iI ((i10 : Int)))]) dX0_countPairs_26 oX7_holds w_576 w_463 rfl (by omega) rfl (Nat.le_of_ble_eq_true rfl) (c_holds (by omega) (by omega)) ?_
        refine k_eqst (congrArg (fun z : Int => Value.int (iI z) :: []) (show zb (z_bit (w) ((i10 : Int)) = true) = zb (0 ≤ ((i10 : Int)) ∧ ((i10 : Int)) < 16 ∧ z_bit (w) ((i10 : Int)) = true) from (f_holds (by omega) (by omega)).symm)) ?_
        refine k_if_eq (tgt := 60) dX0_countPairs_29 rfl (zb_kr _) (fun h_6 => ?_) (fun h_6 => ?_)
        · have h_6 := zb_0.mp h_6
          refine k_iinc (ls' := [(0, .ref 18), (1, .int (iI (w))), (2, .int (iI ((i2 : Int)))), (3, .int (iI ((i10 : Int) + 1)))]) dX0_countPairs_60 3 rfl (by decide) rfl rfl ?_
          refine k_goto (tgt := 10) dX0_countPairs_63 rfl ?_
          refine k_eqσ (σ' := (k_up σ 19 (g_pairI w i2 (i10 + 1) (g_pairs w i2 (σ 19))))) (congrArg (k_up σ 19) (if_neg (fun q => h_6 q.2))) ?_
          exact ih10
        · have h_6 := zb_n0.mp h_6
          refine k_iload_n dX0_countPairs_32 2 rfl rfl ?_
          refine k_bipush (v := 7) dX0_countPairs_33 (by decide) ?_
          refine k_imul dX0_countPairs_35 ?_
          refine k_iload_n dX0_countPairs_36 3 rfl rfl ?_
          refine k_iadd dX0_countPairs_37 ?_
          refine k_istore (ls' := [(0, .ref 18), (1, .int (iI (w))), (2, .int (iI ((i2 : Int)))), (3, .int (iI ((i10 : Int)))), (4, .int (iI ((((i2 : Int)) * 7) + ((i10 : Int)))))]) dX0_countPairs_38 (by decide) rfl rfl ?_
          refine k_aload_n dX0_countPairs_40 0 rfl rfl (by decide) ?_
          refine k_get (kf := 1) (v := .ref 19) dX0_countPairs_41 kcX0 w_238 (by decide) (by decide) (s_18 hsh) rfl rfl ?_
          refine k_iload dX0_countPairs_44 4 rfl ?_
          refine k_aload_n dX0_countPairs_46 0 rfl rfl (by decide) ?_
          refine k_get (kf := 1) (v := .ref 19) dX0_countPairs_47 kcX0 w_238 (by decide) (by decide) (s_18 hsh) rfl rfl ?_
          refine k_iload dX0_countPairs_50 4 rfl ?_
          refine k_callSNr (st := [.int (iI ((((i2 : Int)) * 7) + ((i10 : Int)))), .ref 19]) (as := [.ref 19, .int (iI ((((i2 : Int)) * 7) + ((i10 : Int))))]) dX0_countPairs_52 oX7_read w_577 w_460 rfl (by omega) rfl (Nat.le_of_ble_eq_true rfl) (c_readIn (by decide) (s_19 hsh) (by decide) (by omega) (by omega)) ?_
          refine k_eqst (congrArg (fun z : Int => Value.int (iI z) :: [.int (iI ((((i2 : Int)) * 7) + ((i10 : Int)))), .ref 19]) (show g_pairI w i2 i10 (g_pairs w i2 (σ 19)) ((i2 : Int) * 7 + (i10 : Int)).toNat = (k_up σ 19 (g_pairI w i2 i10 (g_pairs w i2 (σ 19)))) 19 ((((i2 : Int)) * 7) + ((i10 : Int))).toNat from rfl)) ?_
          refine k_iconst (v := 1) dX0_countPairs_55 rfl ?_
          refine k_iadd dX0_countPairs_56 ?_
          refine k_callSNr (st := []) (as := [.ref 19, .int (iI ((((i2 : Int)) * 7) + ((i10 : Int)))), .int (iI ((g_pairI w i2 i10 (g_pairs w i2 (σ 19)) ((i2 : Int) * 7 + (i10 : Int)).toNat) + 1))]) dX0_countPairs_57 oX7_write w_570 w_498 rfl (by omega) rfl (Nat.le_of_ble_eq_true rfl) (c_writeIn (by decide) (s_19 hsh) (by decide) (by omega) (by omega)) ?_
          refine k_iinc (ls' := [(0, .ref 18), (1, .int (iI (w))), (2, .int (iI ((i2 : Int)))), (3, .int (iI ((i10 : Int) + 1))), (4, .int (iI ((((i2 : Int)) * 7) + ((i10 : Int)))))]) dX0_countPairs_60 3 rfl (by decide) rfl rfl ?_
          refine k_goto (tgt := 10) dX0_countPairs_63 rfl ?_
          refine k_eqσ (σ' := (k_up σ 19 (g_pairI w i2 (i10 + 1) (g_pairs w i2 (σ 19))))) (by funext i; by_cases e19 : i = 19; (· subst e19; exact if_pos (show z_bit w (i2 : Int) = true ∧ z_bit w (i10 : Int) = true from ⟨h_5, h_6⟩)); simp [k_up, e19]) ?_
          refine k_dropr (ls' := [(0, .ref 18), (1, .int (iI (w))), (2, .int (iI ((i2 : Int)))), (3, .int (iI ((i10 : Int) + 1)))]) (ex := [(4, .int (iI ((((i2 : Int)) * 7) + ((i10 : Int)))))]) rfl ?_
          exact ih10
set_option maxHeartbeats 4000000 in
theorem c_collectCommon (hsh : k_Main sh) (hI : k_Ty σ)  : k_C E mX0_collectCommon 3 [.ref 18] sh σ 0 0 (k_ret none sh (u_comm σ)) := by
  refine k_C_of (ls0 := [(0, .ref 18)]) rfl pnX0 (fun v hv => k_cat1 rfl hv) (Nat.le_of_ble_eq_true rfl) rfl ?_
  obtain ⟨t0, t1, t2, t3, t4, t5, t6, t7, t8, t9, t10, t11⟩ := id hI
  refine k_iconst (v := 0) dX0_collectCommon_0 rfl ?_
  refine k_istore_n (ls' := [(0, .ref 18), (1, .int (iI (0)))]) dX0_collectCommon_1 rfl (by decide) rfl rfl ?_
  refine k_eqσ (σ' := (k_up σ 19 (g_zero 0 (σ 19)))) (k_up_self _ 19) ?_
  refine k_down (P := fun i2 : Nat => k_V E mX0_collectCommon _ 2 [(0, .ref 18), (1, .int (iI ((i2 : Int))))] [] sh (k_up σ 19 (g_zero i2 (σ 19))) _ _ _) (49) ?_ ?_
  · skip
    refine k_iload_n dX0_collectCommon_2 1 rfl rfl ?_
    refine k_bipush (v := 49) dX0_collectCommon_3 (by decide) ?_
    refine k_icmp_ge (tgt := 23) dX0_collectCommon_5 rfl ⟨by omega, by omega⟩ ⟨by decide, by decide⟩ (fun h_1 => ?_) (fun h_1 => absurd h_1 (by omega))
    refine k_iconst (v := 0) dX0_collectCommon_23 rfl ?_
    refine k_istore_n (ls' := [(0, .ref 18), (1, .int (iI (0)))]) dX0_collectCommon_24 rfl (by decide) rfl rfl ?_
    refine k_eqσ (σ' := (k_up σ 19 (g_comm σ 0))) (rfl) ?_
    refine k_down (P := fun i25 : Nat => k_V E mX0_collectCommon _ 25 [(0, .ref 18), (1, .int (iI ((i25 : Int))))] [] sh (k_up σ 19 (g_comm σ i25)) _ _ _) ((σ 1 2).toNat) ?_ ?_
    · skip
      have hq : k_PlEq (k_up σ 19 (g_comm σ ((σ 1 2).toNat))) σ := k_PlEq.refl.up (by decide)
      have q1 : 0 ≤ f_wishSet σ (((σ 1 2).toNat) : Int) ∧ f_wishSet σ (((σ 1 2).toNat) : Int) < 128 := f_wishSetN_r hI _ _
      refine k_iload_n dX0_collectCommon_25 1 rfl rfl ?_
      refine k_aload_n dX0_collectCommon_26 0 rfl rfl (by decide) ?_
      refine k_get (kf := 0) (v := .ref 1) dX0_collectCommon_27 kcX0 w_237 (by decide) (by decide) (s_18 hsh) rfl rfl ?_
      refine k_getN (kf := 2) (v := .int (iI ((k_up σ 19 (g_comm σ ((σ 1 2).toNat))) 1 2))) dX0_collectCommon_30 kcX5 w_140 (by decide) (by decide) (s_1 hsh) rfl rfl ?_
      refine k_eqst (congrArg (fun z : Int => Value.int (iI z) :: [.int (iI ((((σ 1 2).toNat : Nat) : Int)))]) (show σ 1 2 = (k_up σ 19 (g_comm σ ((σ 1 2).toNat))) 1 2 from rfl)) ?_
      refine k_icmp_ge (tgt := 54) dX0_collectCommon_33 rfl ⟨by omega, by omega⟩ ⟨by omega, by omega⟩ (fun h_2 => ?_) (fun h_2 => absurd h_2 (by omega))
      exact k_retv dX0_collectCommon_54 rfl rfl
    · intro i25 hi25 ih25
      have hq : k_PlEq (k_up σ 19 (g_comm σ i25)) σ := k_PlEq.refl.up (by decide)
      have q1 : 0 ≤ f_wishSet σ (i25 : Int) ∧ f_wishSet σ (i25 : Int) < 128 := f_wishSetN_r hI _ _
      refine k_iload_n dX0_collectCommon_25 1 rfl rfl ?_
      refine k_aload_n dX0_collectCommon_26 0 rfl rfl (by decide) ?_
      refine k_get (kf := 0) (v := .ref 1) dX0_collectCommon_27 kcX0 w_237 (by decide) (by decide) (s_18 hsh) rfl rfl ?_
      refine k_getN (kf := 2) (v := .int (iI ((k_up σ 19 (g_comm σ i25)) 1 2))) dX0_collectCommon_30 kcX5 w_140 (by decide) (by decide) (s_1 hsh) rfl rfl ?_
      refine k_eqst (congrArg (fun z : Int => Value.int (iI z) :: [.int (iI ((i25 : Int)))]) (show σ 1 2 = (k_up σ 19 (g_comm σ i25)) 1 2 from rfl)) ?_
      refine k_icmp_ge (tgt := 54) dX0_collectCommon_33 rfl ⟨by omega, by omega⟩ ⟨by omega, by omega⟩ (fun h_3 => absurd h_3 (by omega)) (fun h_3 => ?_)
      refine k_aload_n dX0_collectCommon_36 0 rfl rfl (by decide) ?_
      refine k_aload_n dX0_collectCommon_37 0 rfl rfl (by decide) ?_
      refine k_get (kf := 0) (v := .ref 1) dX0_collectCommon_38 kcX0 w_237 (by decide) (by decide) (s_18 hsh) rfl rfl ?_
      refine k_iload_n dX0_collectCommon_41 1 rfl rfl ?_
      refine k_callVr (st := [.ref 18]) (as := [.int (iI ((i25 : Int)))]) dX0_collectCommon_42 oX5_wishSet w_571 w_555 w_556 rfl (by omega) rfl (Nat.le_of_ble_eq_true rfl) (by decide) (s_1 hsh) rfl (c_wishSet hsh (hq.ty hI) ⟨by omega, by omega⟩ (by omega)) ?_
      refine k_eqst (congrArg (fun z : Int => Value.int (iI z) :: [.ref 18]) (show f_wishSet σ (i25 : Int) = f_wishSet (k_up σ 19 (g_comm σ i25)) ((i25 : Int)) from (hq.wishSet _).symm)) ?_
      refine k_callVr (st := []) (as := [.int (iI (f_wishSet σ (i25 : Int)))]) dX0_collectCommon_45 oX0_countPairs w_572 w_574 w_5 rfl (by omega) rfl (Nat.le_of_ble_eq_true rfl) (by decide) (s_18 hsh) rfl (c_countPairs hsh ⟨by omega, by omega⟩ (by omega)) ?_
      refine k_iinc (ls' := [(0, .ref 18), (1, .int (iI ((i25 : Int) + 1)))]) dX0_collectCommon_48 1 rfl (by decide) rfl rfl ?_
      refine k_goto (tgt := 25) dX0_collectCommon_51 rfl ?_
      refine k_eqσ (σ' := (k_up σ 19 (g_comm σ (i25 + 1)))) (by funext i; by_cases e19 : i = 19; (· subst e19; rfl); simp [k_up, e19]) ?_
      exact ih25
  · intro i2 hi2 ih2
    refine k_iload_n dX0_collectCommon_2 1 rfl rfl ?_
    refine k_bipush (v := 49) dX0_collectCommon_3 (by decide) ?_
    refine k_icmp_ge (tgt := 23) dX0_collectCommon_5 rfl ⟨by omega, by omega⟩ ⟨by decide, by decide⟩ (fun h_4 => absurd h_4 (by omega)) (fun h_4 => ?_)
    refine k_aload_n dX0_collectCommon_8 0 rfl rfl (by decide) ?_
    refine k_get (kf := 1) (v := .ref 19) dX0_collectCommon_9 kcX0 w_238 (by decide) (by decide) (s_18 hsh) rfl rfl ?_
    refine k_iload_n dX0_collectCommon_12 1 rfl rfl ?_
    refine k_iconst (v := 0) dX0_collectCommon_13 rfl ?_
    refine k_callSNr (st := []) (as := [.ref 19, .int (iI ((i2 : Int))), .int (iI (0))]) dX0_collectCommon_14 oX7_write w_570 w_498 rfl (by omega) rfl (Nat.le_of_ble_eq_true rfl) (c_writeIn (by decide) (s_19 hsh) (by decide) (by omega) (by omega)) ?_
    refine k_iinc (ls' := [(0, .ref 18), (1, .int (iI ((i2 : Int) + 1)))]) dX0_collectCommon_17 1 rfl (by decide) rfl rfl ?_
    refine k_goto (tgt := 2) dX0_collectCommon_20 rfl ?_
    refine k_eqσ (σ' := (k_up σ 19 (g_zero (i2 + 1) (σ 19)))) (by funext i; by_cases e19 : i = 19; (· subst e19; rfl); simp [k_up, e19]) ?_
    exact ih2
end K_T
