/-! ===== UNDO's contract with what the kept rows really hold; the end of a change ===== -/
section K_M4
variable {E : k_E} {M : k_M} {dp pc k n : Nat} {ls : List (Nat × Value)} {st : List Value} {sh : List k_Sh} {σ : Nat → Nat → Int} {r : Nat → Int} {Q : k_Q}
theorem k_Mo_mixU2 {r f : Nat → Int} {u k m : Nat} (h : k_Mo r) (hg : k_Mo (g_tail f u)) (hk : k < 153) (e : m = 153 * u + k) : k_Mo (k_u1 r k (f m)) := by
  have h2 := k_Mo_mix h hg k
  have e2 : g_tail f u k = f (153 * u + k) := if_pos hk
  rw [e2] at h2
  subst e
  exact h2
set_option maxRecDepth 100000 in
set_option maxHeartbeats 4000000 in
theorem c8_undo2 (hsh : k_Main sh) (hMA : k_MA σ)  (hU : ∀ u : Nat, (u : Int) < σ 123 5 → k_Mo (g_tail (σ 128) u)) : k_C E mX8_undo 3 [.ref 123] sh σ 0 0 ((k_pP sh R_undo) (m_undo σ)) := by
  refine k_C_of (ls0 := [(0, .ref 123)]) rfl pnX8 (fun v hv => k_cat1 rfl hv) (Nat.le_of_ble_eq_true rfl) rfl ?_
  obtain ⟨⟨t0, t0b⟩, ⟨t1, t1b⟩, ⟨t2, t2b⟩, ⟨t3, t3b⟩, -⟩ := id hMA.2.1
  obtain ⟨⟨f7_0, g7_0⟩, ⟨f7_1, g7_1⟩, ⟨f7_2, g7_2⟩, ⟨f7_3, g7_3⟩, ⟨f7_4, g7_4⟩, ⟨f7_5, g7_5⟩, ⟨f7_6, g7_6⟩, ⟨f7_7, g7_7⟩, ⟨f7_8, g7_8⟩, ⟨f7_9, g7_9⟩, ⟨f7_10, g7_10⟩, ⟨f7_11, g7_11⟩, ⟨f7_12, g7_12⟩, ⟨f7_13, g7_13⟩⟩ := id hMA.1
  unfold m_undo
  refine k_aload_n dX8_undo_0 0 rfl rfl (by decide) ?_
  refine k_get (kf := 5) (v := .int (iI ((σ 123) 5))) dX8_undo_1 kcX8 w_1752 (by decide) (by decide) (s_123 hsh) rfl rfl ?_
  refine k_if_ne (tgt := 13) dX8_undo_4 rfl ⟨by omega, by omega⟩ (fun h1 => ?_) (fun h1 => ?_)
  · refine k_iff (F := (k_pP sh R_undo)) h1 ?_
    refine k_aload_n dX8_undo_13 0 rfl rfl (by decide) ?_
    refine k_dup dX8_undo_14 rfl ?_
    refine k_get (kf := 5) (v := .int (iI ((σ 123) 5))) dX8_undo_15 kcX8 w_1752 (by decide) (by decide) (s_123 hsh) rfl rfl ?_
    refine k_iconst (v := 1) dX8_undo_18 rfl ?_
    refine k_isub dX8_undo_19 ?_
    refine k_putfW (kf := 5) dX8_undo_20 kcX8 w_1752 (by decide) (by decide) (s_123 hsh) rfl rfl rfl rfl ?_
    refine k_eqσ (σ' := (k_up σ 123 (k_u1 (σ 123) 5 (((σ 123) 5) - 1)))) rfl ?_
    refine k_iconst (v := 0) dX8_undo_23 rfl ?_
    refine k_istore_n (ls' := [(0, .ref 123), (1, .int (iI (0)))]) dX8_undo_24 rfl (by decide) rfl rfl ?_
    refine k_eqσ (σ' := (k_up (k_up σ 123 (k_u1 (σ 123) 5 (((σ 123) 5) - 1))) 124 (σ 124))) ((show k_up (k_up σ 123 (k_u1 (σ 123) 5 (((σ 123) 5) - 1))) 124 (σ 124) = (k_up (k_up σ 123 (k_u1 (σ 123) 5 (((σ 123) 5) - 1))) 124 (σ 124)) from rfl).symm.trans (k_up_self _ _)) ?_
    refine k_loop (α := (Nat → Int)) (P := fun (i25 : Nat) (x25 : (Nat → Int)) Q => k_V E mX8_undo _ 25 [(0, .ref 123), (1, .int (iI ((i25 : Int))))] [] sh (k_up (k_up σ 123 (k_u1 (σ 123) 5 (((σ 123) 5) - 1))) 124 x25) _ _ Q) (J := fun (i25 : Nat) (x25 : (Nat → Int)) => (k_Mo x25)) (153) (b_undo_25 σ) ((σ 124)) (F := fun t => (k_pP sh R_undo) ((r_undo_25 σ) t)) (show (k_Mo (σ 124)) from (hMA).2.1) ?_ ?_
    · intro x25 hJ25
      have hJ25 : (k_Mo x25) := hJ25
      have hW25_124 := hJ25
      show k_V E mX8_undo _ 25 [(0, .ref 123), (1, .int (iI (((153 : Nat) : Int))))] [] sh (k_up (k_up σ 123 (k_u1 (σ 123) 5 (((σ 123) 5) - 1))) 124 x25) _ _ ((k_pP sh R_undo) ((r_undo_25 σ) x25))
      unfold r_undo_25
      refine k_iload_n dX8_undo_25 1 rfl rfl ?_
      refine k_sipush (v := 153) dX8_undo_26 (by decide) ?_
      refine k_icmp_ge (tgt := 59) dX8_undo_29 rfl ⟨by omega, by omega⟩ ⟨by decide, by decide⟩ (fun h3 => ?_) (fun h3 => absurd h3 (by omega))
      refine k_aload_n dX8_undo_59 0 rfl rfl (by decide) ?_
      refine k_aload_n dX8_undo_60 0 rfl rfl (by decide) ?_
      refine k_get (kf := 5) (v := .int (iI (((σ 123) 5) - 1))) dX8_undo_61 kcX8 w_1752 (by decide) (by decide) (s_123 hsh) rfl rfl ?_
      refine k_callVr (st := []) (as := [.int (iI (((σ 123) 5) - 1))]) dX8_undo_64 oX8_tells w_1854 w_1856 w_32 rfl (by omega) rfl (Nat.le_of_ble_eq_true rfl) (by decide) (s_123 hsh) rfl (c8_tells hsh) ?_
      refine k_eqσ (σ' := (k_up (k_up σ 123 (k_u1 (k_u1 (σ 123) 5 (((σ 123) 5) - 1)) 7 (0))) 124 x25)) ((show k_up (k_up (k_up σ 123 (k_u1 (σ 123) 5 (((σ 123) 5) - 1))) 124 x25) 123 (k_u1 (k_u1 (σ 123) 5 (((σ 123) 5) - 1)) 7 (0)) = (k_up (k_up σ 123 (k_u1 (k_u1 (σ 123) 5 (((σ 123) 5) - 1)) 7 (0))) 124 x25) from ((k_up_comm (by decide)).trans (congrArg (fun s => k_up s 124 _) k_up_up)))).symm ?_
      exact k_retiP dX8_undo_67 rfl rfl rfl (show (-1 ≤ ((σ 123) 5) - 1 ∧ ((σ 123) 5) - 1 ≤ 1000) ∧ k_MA (k_up (k_up σ 123 (k_u1 (k_u1 (σ 123) 5 (((σ 123) 5) - 1)) 7 (0))) 124 x25) from ⟨by omega, ⟨(show k_F0 (k_u1 (k_u1 (σ 123) 5 (((σ 123) 5) - 1)) 7 (0)) from (k_F0_u (show k_F0 (k_u1 (σ 123) 5 (((σ 123) 5) - 1)) from (k_F0_u (hMA).1 (by omega))) (by omega))), hW25_124, (hMA).2.2.1, (hMA).2.2.2.1, (hMA).2.2.2.2.1, (hMA).2.2.2.2.2.1, (hMA).2.2.2.2.2.2.1, (hMA).2.2.2.2.2.2.2.1, (hMA).2.2.2.2.2.2.2.2.1, (hMA).2.2.2.2.2.2.2.2.2.1, (hMA).2.2.2.2.2.2.2.2.2.2.1, (hMA).2.2.2.2.2.2.2.2.2.2.2.1, (hMA).2.2.2.2.2.2.2.2.2.2.2.2⟩⟩)
    · intro n25 i25 x25 hi25 hJ25 ih25
      have hJ25 : (k_Mo x25) := hJ25
      have hW25_124 := hJ25
      show k_V E mX8_undo _ 25 [(0, .ref 123), (1, .int (iI ((i25 : Int))))] [] sh (k_up (k_up σ 123 (k_u1 (σ 123) 5 (((σ 123) 5) - 1))) 124 x25) _ _ ((fun t => (k_pP sh R_undo) ((r_undo_25 σ) (k_it (b_undo_25 σ) n25 (i25 + 1) t))) ((b_undo_25 σ) i25 x25))
      unfold b_undo_25
      refine k_iload_n dX8_undo_25 1 rfl rfl ?_
      refine k_sipush (v := 153) dX8_undo_26 (by decide) ?_
      refine k_icmp_ge (tgt := 59) dX8_undo_29 rfl ⟨by omega, by omega⟩ ⟨by decide, by decide⟩ (fun h5 => absurd h5 (by omega)) (fun h5 => ?_)
      refine k_aload_n dX8_undo_32 0 rfl rfl (by decide) ?_
      refine k_get (kf := 0) (v := .ref 124) dX8_undo_33 kcX8 w_1747 (by decide) (by decide) (s_123 hsh) rfl rfl ?_
      refine k_iload_n dX8_undo_36 1 rfl rfl ?_
      refine k_aload_n dX8_undo_37 0 rfl rfl (by decide) ?_
      refine k_get (kf := 4) (v := .ref 128) dX8_undo_38 kcX8 w_1751 (by decide) (by decide) (s_123 hsh) rfl rfl ?_
      refine k_sipush (v := 153) dX8_undo_41 (by decide) ?_
      refine k_aload_n dX8_undo_44 0 rfl rfl (by decide) ?_
      refine k_get (kf := 5) (v := .int (iI (((σ 123) 5) - 1))) dX8_undo_45 kcX8 w_1752 (by decide) (by decide) (s_123 hsh) rfl rfl ?_
      refine k_imul dX8_undo_48 ?_
      refine k_iload_n dX8_undo_49 1 rfl rfl ?_
      refine k_iadd dX8_undo_50 ?_
      refine k_iald dX8_undo_51 (by decide) (s_128 hsh) (by omega) (by omega) (by decide) ?_
      refine k_eqst (st' := [.int (iI ((σ 128) ((153 * (((σ 123) 5) - 1)) + ((i25 : Int))).toNat)), .int (iI ((i25 : Int))), .ref 124]) rfl ?_
      refine k_iastW dX8_undo_52 (by decide) (s_124 hsh) (by omega) (by omega) (by decide) ?_
      refine k_eqσ (σ' := (k_up (k_up σ 123 (k_u1 (σ 123) 5 (((σ 123) 5) - 1))) 124 (k_u1 x25 ((i25 : Int)).toNat ((σ 128) ((153 * (((σ 123) 5) - 1)) + ((i25 : Int))).toNat)))) (show k_up (k_up (k_up σ 123 (k_u1 (σ 123) 5 (((σ 123) 5) - 1))) 124 x25) 124 (k_u1 x25 ((i25 : Int)).toNat ((σ 128) ((153 * (((σ 123) 5) - 1)) + ((i25 : Int))).toNat)) = _ from k_up_up).symm ?_
      refine k_iinc (ls' := [(0, .ref 123), (1, .int (iI ((i25 : Int) + 1)))]) dX8_undo_53 1 rfl (by decide) rfl rfl ?_
      refine k_goto (tgt := 25) dX8_undo_56 rfl ?_
      exact ih25 ((k_u1 x25 ((i25 : Int)).toNat ((σ 128) ((153 * (((σ 123) 5) - 1)) + ((i25 : Int))).toNat))) (show (k_Mo (k_u1 x25 ((i25 : Int)).toNat ((σ 128) ((153 * (((σ 123) 5) - 1)) + ((i25 : Int))).toNat))) from (show k_Mo (k_u1 x25 ((i25 : Int)).toNat ((σ 128) ((153 * (((σ 123) 5) - 1)) + ((i25 : Int))).toNat)) from (k_Mo_mixU2 hW25_124 (hU (σ 123 5 - 1).toNat (by omega)) (by omega) (by omega))))
  · refine k_ift (F := (k_pP sh R_undo)) h1 ?_
    refine k_aload_n dX8_undo_7 0 rfl rfl (by decide) ?_
    refine k_iconst (v := 1) dX8_undo_8 rfl ?_
    refine k_callVr (st := []) (as := [.int (iI (1))]) dX8_undo_9 oX8_fails w_1850 w_1852 w_31 rfl (by omega) rfl (Nat.le_of_ble_eq_true rfl) (by decide) (s_123 hsh) rfl (c8_fails hsh) ?_
    refine k_eqσ (σ' := (k_up σ 123 (k_u1 (σ 123) 7 (1)))) ((show k_up σ 123 (k_u1 (σ 123) 7 (1)) = (k_up σ 123 (k_u1 (σ 123) 7 (1))) from rfl)).symm ?_
    exact k_retiP dX8_undo_12 rfl rfl rfl (show (-1 ≤ (0 : Int) ∧ (0 : Int) ≤ 1000) ∧ k_MA (k_up σ 123 (k_u1 (σ 123) 7 (1))) from ⟨by omega, ⟨(show k_F0 (k_u1 (σ 123) 7 (1)) from (k_F0_u (hMA).1 (by omega))), (hMA).2.1, (hMA).2.2.1, (hMA).2.2.2.1, (hMA).2.2.2.2.1, (hMA).2.2.2.2.2.1, (hMA).2.2.2.2.2.2.1, (hMA).2.2.2.2.2.2.2.1, (hMA).2.2.2.2.2.2.2.2.1, (hMA).2.2.2.2.2.2.2.2.2.1, (hMA).2.2.2.2.2.2.2.2.2.2.1, (hMA).2.2.2.2.2.2.2.2.2.2.2.1, (hMA).2.2.2.2.2.2.2.2.2.2.2.2⟩⟩)
end K_M4
section K_R29
variable {σ ρ τ : Nat → Nat → Int} {r : Nat → Int}
theorem z_itw (f g : Nat → Int) (o : Nat) (F : Nat → (Nat → Int) → Nat → Int) (hF : ∀ i x, F i x = k_u1 x (o + i) (f i)) (j : Nat) : ∀ n : Nat, k_it F n 0 g j = if o ≤ j ∧ j < o + n then f (j - o) else g j
  | 0 => (if_neg (by omega)).symm
  | n + 1 => by
    rw [k_it_succ, Nat.zero_add, hF]
    show (if j = o + n then f n else k_it F n 0 g j) = _
    rw [z_itw f g o F hF j n]
    by_cases e : j = o + n
    · rw [if_pos e, if_pos (by omega), show j - o = n by omega]
    · rw [if_neg e]
      by_cases q : o ≤ j ∧ j < o + n
      · rw [if_pos q, if_pos (by omega)]
      · rw [if_neg q, if_neg (by omega)]
theorem z_itsh (g : Nat → Int) (F : Nat → (Nat → Int) → Nat → Int) (hF : ∀ i x, F i x = k_u1 x i (x (i + 153))) : ∀ n j : Nat, k_it F n 0 g j = if j < n then g (j + 153) else g j
  | 0, j => (if_neg (Nat.not_lt_zero j)).symm
  | n + 1, j => by
    rw [k_it_succ, Nat.zero_add, hF]
    show (if j = n then k_it F n 0 g (n + 153) else k_it F n 0 g j) = _
    rw [z_itsh g F hF n, z_itsh g F hF n]
    by_cases e : j = n
    · rw [if_pos e, if_neg (by omega), if_pos (by omega), e]
    · rw [if_neg e]
      by_cases q : j < n
      · rw [if_pos q, if_pos (by omega)]
      · rw [if_neg q, if_neg (by omega)]
theorem m_ends_0 (h8 : τ 123 8 = 0) (h5 : 0 ≤ τ 123 5 ∧ τ 123 5 ≤ 8) (v x y : Int) : (m_ends τ v x y).1 = v ∧ (m_ends τ v x y).2 123 7 = 0 ∧ ((m_ends τ v x y).2 123 5 = if τ 123 5 = 8 then 8 else τ 123 5 + 1) ∧ (∀ j, j ≠ 5 → j ≠ 7 → (m_ends τ v x y).2 123 j = τ 123 j) ∧ (∀ i, i ≠ 123 → i ≠ 128 → (m_ends τ v x y).2 i = τ i) ∧ (∀ j, j < 153 → g_tail ((m_ends τ v x y).2 128) (if τ 123 5 = 8 then 7 else (τ 123 5).toNat) j = τ 125 j) ∧ ∀ u : Nat, (u : Int) < (if τ 123 5 = 8 then 7 else τ 123 5) → g_tail ((m_ends τ v x y).2 128) u = g_tail (τ 128) (if τ 123 5 = 8 then u + 1 else u) := by
  unfold m_ends
  rw [if_pos h8]
  by_cases q : τ 123 5 = 8
  · rw [if_pos q]
    simp only [if_pos q]
    unfold r_ends_59 r_ends_99_2
    have hsh := z_itsh (τ 128) (b_ends_59 τ v x y) (fun i x' => by
      unfold b_ends_59
      rw [Int.toNat_natCast, show ((i : Int) + 153).toNat = i + 153 by omega]) (153 * (τ 123 5 - 1)).toNat
    generalize k_it (b_ends_59 τ v x y) (153 * (τ 123 5 - 1)).toNat 0 (τ 128) = z at hsh ⊢
    have hw := z_itw (τ 125) z (153 * 7) (b_ends_99_2 τ v x y z) (fun i x' => by
      unfold b_ends_99_2
      rw [Int.toNat_natCast, q, show (153 * ((8 : Int) - 1) + (i : Int)).toNat = 153 * 7 + i by omega])
    replace hw := fun j => hw j 153
    generalize k_it (b_ends_99_2 τ v x y z) 153 0 z = w at hw ⊢
    refine ⟨rfl, ?_, ?_, fun j h1 h2 => ?_, fun i h1 h2 => ?_, fun j hj => ?_, fun u hu => ?_⟩
    · dsimp only
      rw [k_up_ne (by decide), k_up_same]
      exact if_pos rfl
    · dsimp only
      rw [k_up_ne (by decide), k_up_same]
      refine (if_neg (by decide)).trans ((if_pos rfl).trans ?_)
      omega
    · dsimp only
      rw [k_up_ne (by decide), k_up_same]
      exact (if_neg h2).trans ((if_neg h1).trans (if_neg h1))
    · dsimp only
      rw [k_up_ne h2, k_up_ne h1]
    · dsimp only
      rw [k_up_same]
      unfold g_tail
      rw [if_pos hj, hw, if_pos (by omega), show 153 * 7 + j - 153 * 7 = j by omega]
    · dsimp only
      rw [k_up_same]
      funext j
      unfold g_tail
      by_cases hj : j < 153
      · rw [if_pos hj, if_pos hj, hw, if_neg (by omega), hsh, if_pos (by omega), show 153 * u + j + 153 = 153 * (u + 1) + j by omega]
      · rw [if_neg hj, if_neg hj]
  · rw [if_neg q]
    simp only [if_neg q]
    unfold r_ends_99
    have hw := z_itw (τ 125) (τ 128) (153 * (τ 123 5).toNat) (b_ends_99 τ v x y) (fun i x' => by
      unfold b_ends_99
      rw [Int.toNat_natCast, show (153 * τ 123 5 + (i : Int)).toNat = 153 * (τ 123 5).toNat + i by omega])
    replace hw := fun j => hw j 153
    generalize k_it (b_ends_99 τ v x y) 153 0 (τ 128) = w at hw ⊢
    refine ⟨rfl, ?_, ?_, fun j h1 h2 => ?_, fun i h1 h2 => ?_, fun j hj => ?_, fun u hu => ?_⟩
    · dsimp only
      rw [k_up_ne (by decide), k_up_same]
      exact if_pos rfl
    · dsimp only
      rw [k_up_ne (by decide), k_up_same]
      exact (if_neg (by decide)).trans (if_pos rfl)
    · dsimp only
      rw [k_up_ne (by decide), k_up_same]
      exact (if_neg h2).trans (if_neg h1)
    · dsimp only
      rw [k_up_ne h2, k_up_ne h1]
    · dsimp only
      rw [k_up_same]
      unfold g_tail
      rw [if_pos hj, hw, if_pos (by omega), show 153 * (τ 123 5).toNat + j - 153 * (τ 123 5).toNat = j by omega]
    · dsimp only
      rw [k_up_same]
      funext j
      unfold g_tail
      by_cases hj : j < 153
      · rw [if_pos hj, if_pos hj, hw, if_neg (by
          have : (u : Int) < τ 123 5 := hu
          have h : u + 1 ≤ (τ 123 5).toNat := by omega
          have h3 : 153 * (u + 1) ≤ 153 * (τ 123 5).toNat := Nat.mul_le_mul_left 153 h
          omega)]
      · rw [if_neg hj, if_neg hj]
theorem m_ends_1 (h8 : τ 123 8 ≠ 0) (v x y : Int) : (m_ends τ v x y).1 = 0 ∧ (m_ends τ v x y).2 = k_up τ 123 (k_u1 (τ 123) 7 (if τ 123 8 = x then 1 else if τ 123 8 = y then 2 else 3)) := by
  unfold m_ends
  rw [if_neg h8]
  (repeat' split) <;> exact ⟨rfl, rfl⟩
end K_R29
