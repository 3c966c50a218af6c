/-! ===== EXECUTING a program, alike ===== -/
section K_R43
variable {E : k_E} {M M1 : k_M} {dp d1 pc k n k1 n1 na : Nat} {ls : List (Nat × Value)} {st as : List Value} {sh : List k_Sh} {σ ρ τ : Nat → Nat → Int} {r t : Nat → Int} {v w : Nat} {Q Q1 : k_Q} {o : Option Value}
/-- one more is kept, from any plan -/
theorem q_keepB {B : Nat} {σ' ρ' : Nat → Nat → Int} (h : k_Hs σ ρ) (hH : k_Hi σ) (hk : k_PA (g_tail (ρ' 128) (if σ 24 2 = 8 then 7 else (σ 24 2).toNat)) σ B) (hσ : ∀ i, 24 ≤ i → i < 98 → σ' i = u_keepB σ B i) (h5 : ρ' 123 5 = if ρ 123 5 = 8 then 8 else ρ 123 5 + 1) (ht : ∀ u : Nat, (u : Int) < (if σ 24 2 = 8 then 7 else σ 24 2) → g_tail (ρ' 128) u = g_tail (ρ 128) (if σ 24 2 = 8 then u + 1 else u)) : k_Hs σ' ρ' := by
  obtain ⟨h1, h2⟩ := h
  obtain ⟨-, hn, hc⟩ := hH
  have e24 : σ' 24 = u_keepB σ B 24 := hσ 24 (by decide) (by decide)
  have k24 : u_keepB σ B 24 = k_u1 (k_u1 (σ 24) 1 (if σ 24 1 + 1 < 8 then σ 24 1 + 1 else 0)) 2 (z_min (σ 24 2 + 1) 8) := k_up_same
  have s1 : σ' 24 1 = if σ 24 1 + 1 < 8 then σ 24 1 + 1 else 0 := by
    rw [e24, k24]
    exact (if_neg (by decide)).trans (if_pos rfl)
  have s2 : σ' 24 2 = z_min (σ 24 2 + 1) 8 := by
    rw [e24, k24]
    exact if_pos rfl
  have hmin : z_min (σ 24 2 + 1) 8 = if σ 24 2 = 8 then 8 else σ 24 2 + 1 := by
    unfold z_min
    (repeat' split) <;> omega
  refine ⟨by rw [h5, s2, hmin, h1], fun u hu => ?_⟩
  rw [s2, hmin] at hu
  rw [s1, s2, hmin]
  have hold : ∀ i, 24 < i → i < 98 → (i < 26 + 9 * (σ 24 1).toNat ∨ 26 + 9 * (σ 24 1).toNat + 9 ≤ i) → σ' i = σ i := fun i a b c => by
    rw [hσ i (by omega) b]
    unfold u_keepB
    rw [k_up_ne (by omega)]
    exact u_copy_ne c
  have hnew : k_PA (g_tail (ρ' 128) (if σ 24 2 = 8 then 7 else (σ 24 2).toNat)) σ' (26 + 9 * (σ 24 1).toNat) := by
    refine k_PA_cong (u_copy_PA (A := 26 + 9 * (σ 24 1).toNat) hk) fun i a b => ?_
    rw [hσ i (by omega) (by omega)]
    unfold u_keepB
    exact k_up_ne (by omega)
  by_cases q8 : σ 24 2 = 8
  · rw [if_pos q8] at hu hnew ⊢
    by_cases q : u = 7
    · subst q
      have e : (g_slot (if σ 24 1 + 1 < 8 then σ 24 1 + 1 else 0) 8 ((7 : Nat) : Int)).toNat = (σ 24 1).toNat := by
        unfold g_slot
        split <;> omega
      rw [e]
      exact hnew
    · have h3 := ht u (by rw [if_pos q8]; omega)
      rw [if_pos q8] at h3
      rw [h3]
      have e : (g_slot (if σ 24 1 + 1 < 8 then σ 24 1 + 1 else 0) 8 (u : Int)).toNat = (g_slot (σ 24 1) (σ 24 2) ((u + 1 : Nat) : Int)).toNat := by
        unfold g_slot
        rw [q8]
        split <;> omega
      have hs : (g_slot (σ 24 1) (σ 24 2) ((u + 1 : Nat) : Int)).toNat < 8 ∧ (g_slot (σ 24 1) (σ 24 2) ((u + 1 : Nat) : Int)).toNat ≠ (σ 24 1).toNat := by
        unfold g_slot
        rw [q8]
        omega
      rw [e]
      exact k_PA_cong (h2 (u + 1) (by omega)) fun i a b => hold i (by omega) (by omega) (by omega)
  · rw [if_neg q8] at hu hnew ⊢
    by_cases q : u = (σ 24 2).toNat
    · subst q
      have e : (g_slot (if σ 24 1 + 1 < 8 then σ 24 1 + 1 else 0) (σ 24 2 + 1) (((σ 24 2).toNat : Nat) : Int)).toNat = (σ 24 1).toNat := by
        unfold g_slot
        split <;> omega
      rw [e]
      exact hnew
    · have h3 := ht u (by rw [if_neg q8]; omega)
      rw [if_neg q8] at h3
      rw [h3]
      have e : (g_slot (if σ 24 1 + 1 < 8 then σ 24 1 + 1 else 0) (σ 24 2 + 1) (u : Int)).toNat = (g_slot (σ 24 1) (σ 24 2) (u : Int)).toNat := by
        unfold g_slot
        split <;> omega
      have hs : (g_slot (σ 24 1) (σ 24 2) (u : Int)).toNat < 8 ∧ (g_slot (σ 24 1) (σ 24 2) (u : Int)).toNat ≠ (σ 24 1).toNat := by
        unfold g_slot
        omega
      rw [e]
      exact k_PA_cong (h2 u (by omega)) fun i a b => hold i (by omega) (by omega) (by omega)
/-- the program's cells, wherever its reading place stands -/
def k_PJ (sh : List k_Sh) (σ : Nat → Nat → Int) (v w : Nat) : Prop := k_PI sh (u_at σ 0) v w
theorem g_parse_at : g_parse v (u_at σ 0) = g_parse v σ := by
  unfold g_parse
  rw [u_at_at]
theorem g_parse_pj (hP : k_PJ sh σ v w) : k_PI sh (g_parse v σ).1 v w ∧ (-1 ≤ (g_parse v σ).2 ∧ (g_parse v σ).2 ≤ 200) ∧ (0 ≤ (g_parse v σ).1 116 3 ∧ (g_parse v σ).1 116 3 ≤ 12) := by
  have := g_parse_pi hP
  rwa [g_parse_at] at this
set_option maxHeartbeats 4000000 in
theorem c_parse2 (hsh : k_Main sh) {v w : Nat} (hP : k_PJ sh σ v w)  : k_C E mX6_parse 9 [.ref 116] sh σ 0 0 (k_ret (some (.int (iI ((g_parse v σ).2)))) sh (g_parse v σ).1) := by
  refine k_C_of (ls0 := [(0, .ref 116)]) rfl pnX6 (fun v hv => k_cat1 rfl hv) (Nat.le_of_ble_eq_true rfl) rfl ?_
  refine k_aload_n dX6_parse_0 0 rfl rfl (by decide) ?_
  refine k_iconst (v := 0) dX6_parse_1 rfl ?_
  refine k_putf (kf := 4) dX6_parse_2 kcX6 w_344 (by decide) (by decide) (s_116 hsh) rfl rfl rfl rfl ?_
  refine k_aload_n dX6_parse_5 0 rfl rfl (by decide) ?_
  refine k_iconst (v := 0) dX6_parse_6 rfl ?_
  refine k_putf (kf := 3) dX6_parse_7 kcX6 w_342 (by decide) (by decide) (s_116 hsh) rfl rfl rfl rfl ?_
  refine k_eqσ (σ' := (u_count (u_at σ 0) 0)) (rfl) ?_
  exact c_parseL hsh 12 _ (k_PI_count hP 0) rfl (Int.le_refl 0)
set_option maxHeartbeats 4000000 in
theorem c7_execute2 (hsh : k_Main sh) {v w : Nat} (hP : k_PJ sh σ v w) (hX : k_exeOK σ v)  : k_C E mX7_execute 14 [.ref 0] sh σ 1 6 (k_rx ((g_exe σ v).1) sh ((g_exe σ v).2)) := by
  refine k_C_of (ls0 := [(0, .ref 0)]) rfl pnX7 (fun v hv => k_cat1 rfl hv) (Nat.le_of_ble_eq_true rfl) rfl ?_
  refine k_aload_n dX7_execute_0 0 rfl rfl (by decide) ?_
  refine k_get (kf := 8) (v := .ref 116) dX7_execute_1 kcX7 w_366 (by decide) (by decide) (s_0 hsh) rfl rfl ?_
  refine k_callVr (st := []) (as := []) dX7_execute_4 oX6_parse w_1612 w_1613 w_1614 rfl (by omega) rfl (Nat.le_of_ble_eq_true rfl) (by decide) (s_116 hsh) rfl (c_parse2 hsh hP) ?_
  have hg := g_parse_pj hP
  refine k_istore_n (ls' := [(0, .ref 0), (1, .int (iI ((g_parse v σ).2)))]) dX7_execute_7 rfl (by decide) rfl rfl ?_
  refine k_aload_n dX7_execute_8 0 rfl rfl (by decide) ?_
  refine k_get (kf := 8) (v := .ref 116) dX7_execute_9 kcX7 w_366 (by decide) (by decide) (s_0 hsh) rfl rfl ?_
  refine k_getN (kf := 0) (v := .ref 117) dX7_execute_12 kcX6 w_339 (by decide) (by decide) (s_116 hsh) rfl rfl ?_
  refine k_iconst (v := 0) dX7_execute_15 rfl ?_
  refine k_callVCr (Cn := "java/lang/StringBuilder") (st := []) (as := [.int (iI (0))]) dX7_execute_16 oJ4_setLength_d00df w_1300 w_1301 w_1302 rfl (by omega) rfl (Nat.le_of_ble_eq_true rfl) (by decide) hg.1.1.1 rfl (c_sbSet hg.1.1) ?_
  refine k_iload_n dX7_execute_19 1 rfl rfl ?_
  refine k_iconst (v := (-1)) dX7_execute_20 rfl ?_
  refine k_icmp_eq (tgt := 40) dX7_execute_21 rfl ⟨by omega, by omega⟩ ⟨by decide, by decide⟩ (fun h_1 => ?_) (fun h_1 => ?_)
  · refine k_aload_n dX7_execute_40 0 rfl rfl (by decide) ?_
    refine k_get (kf := 7) (v := .ref 107) dX7_execute_41 kcX7 w_365 (by decide) (by decide) (s_0 hsh) rfl rfl ?_
    refine k_aload_n dX7_execute_44 0 rfl rfl (by decide) ?_
    refine k_get (kf := 0) (v := .ref 1) dX7_execute_45 kcX7 w_358 (by decide) (by decide) (s_0 hsh) rfl rfl ?_
    refine k_callVr (st := []) (as := [.ref 1]) dX7_execute_48 oX5_copyFrom w_602 w_426 w_427 rfl (by omega) rfl (Nat.le_of_ble_eq_true rfl) (by decide) (s_107 hsh) rfl (c_copyFrom (k_plat107 hsh) (k_plat1 hsh) ⟨by decide, by decide⟩ (by decide)) ?_
    refine k_iconst (v := 0) dX7_execute_51 rfl ?_
    refine k_istore_n (ls' := [(0, .ref 0), (1, .int (iI ((g_parse v σ).2))), (2, .int (iI (0)))]) dX7_execute_52 rfl (by decide) rfl rfl ?_
    show k_V E mX7_execute 14 53 [(0, .ref 0), (1, .int (iI ((g_parse v σ).2))), (2, .int (iI (0)))] [] sh (u_x0 σ v) 1 6 _
    rw [show g_exe σ v = g_ex ((g_parse v σ).1 116 3).toNat 0 (u_x0 σ v) from if_pos h_1, h_1]
    exact c_exL hsh _ 0 _ (hX h_1) (Int.le_refl 0) (by omega)
  · refine k_aload_n dX7_execute_24 0 rfl rfl (by decide) ?_
    refine k_iload_n dX7_execute_25 1 rfl rfl ?_
    refine k_putf (kf := 11) dX7_execute_26 kcX7 w_369 (by decide) (by decide) (s_0 hsh) rfl rfl rfl rfl ?_
    exact k_throwW dX7_execute_29 dX7_execute_32 dX7_execute_33 dX7_execute_36 dX7_execute_39 rfl th_ia w_1671 (by decide) (Nat.le_of_ble_eq_true rfl) ⟨by rw [show g_exe σ v = (.inr x_ia, u_xbad σ v) from if_neg h_1] <;> rfl, rfl, by rw [show g_exe σ v = (.inr x_ia, u_xbad σ v) from if_neg h_1] <;> rfl⟩
theorem k_PJ_mk (hB : k_SB sh σ 117 v w) (h1 : ∀ j, 0 ≤ σ 120 j ∧ σ 120 j ≤ 99) (h2 : ∀ j, 0 ≤ σ 119 j ∧ σ 119 j < 12) (hv : v ≠ 116 ∧ v ≠ 117 ∧ v ≠ 119 ∧ v ≠ 120) : k_PJ sh σ v w := by
  have e1 : u_at σ 0 117 = σ 117 := k_up_ne (by decide)
  have e2 : u_at σ 0 v = σ v := k_up_ne hv.1
  have e3 : u_at σ 0 119 = σ 119 := k_up_ne (by decide)
  have e4 : u_at σ 0 120 = σ 120 := k_up_ne (by decide)
  refine ⟨k_SB_of hB e1 e2, ?_, by rw [e4]; exact h1, by rw [e3]; exact h2, hv⟩
  rw [e1, u_at_4]
  exact ⟨Int.le_refl 0, hB.2.2.2.1.2.2.1⟩
theorem k_PJ_un (hP : k_PJ sh σ v w) : k_SB sh σ 117 v w ∧ (∀ j, 0 ≤ σ 120 j ∧ σ 120 j ≤ 99) ∧ (∀ j, 0 ≤ σ 119 j ∧ σ 119 j < 12) ∧ (v ≠ 116 ∧ v ≠ 117 ∧ v ≠ 119 ∧ v ≠ 120) := by
  obtain ⟨hB, -, h1, h2, hv⟩ := hP
  have e1 : u_at σ 0 117 = σ 117 := k_up_ne (by decide)
  have e2 : u_at σ 0 v = σ v := k_up_ne hv.1
  have e3 : u_at σ 0 119 = σ 119 := k_up_ne (by decide)
  have e4 : u_at σ 0 120 = σ 120 := k_up_ne (by decide)
  rw [e4] at h1
  rw [e3] at h2
  exact ⟨k_SB_of hB e1.symm e2.symm, h1, h2, hv⟩
theorem q_parse2 (hP : k_PJ sh σ v w) (hT : k_Tx v σ ρ) (h60 : σ 117 3 ≤ 60) : (g_parse v σ).2 = (m_parses ρ).1 ∧ ((g_parse v σ).2 = -1 → k_Cd ((g_parse v σ).1 116 3).toNat (g_parse v σ).1 (m_parses ρ).2 ∧ (m_parses ρ).2 123 29 = (g_parse v σ).1 116 3) ∧ k_Rp (g_parse v σ).1 σ ∧ k_Mp (m_parses ρ).2 ρ ∧ (g_parse v σ).2 ≤ 60 := by
  have h := q_parse (ρ := ρ) hP (k_Tx_at hT 0) (by rw [show u_at σ 0 117 = σ 117 from k_up_ne (by decide)]; exact h60)
  rw [g_parse_at] at h
  exact ⟨h.1, h.2.1, k_Rp_tr h.2.2.1 (k_Rp_at 0), h.2.2.2⟩
theorem k_OK_107 (h : k_OK σ) (e : ∀ i, i < 107 → τ i = σ i) : k_OK τ := by
  obtain ⟨hI, hS, hC, hA, hH⟩ := h
  exact ⟨k_Ty_19 (fun i _ _ => e i (by omega)) hI, k_Sc_of hS (e _ (by decide)) (e _ (by decide)) (e _ (by decide)), k_Ch_of hC (e _ (by decide)) (e _ (by decide)) (e _ (by decide)), k_Ar_of hA (e _ (by decide)) (e _ (by decide)) (e _ (by decide)) (e _ (by decide)), k_Hi_of hH (e _ (by decide)) (e _ (by decide))⟩
/-- a plan's row that stands among others -/
theorem k_PA_tail {A : Nat} (h : k_PA r σ A) (hv : ∀ j, j < 153 → t j = r j) (hz : ∀ j, ¬ j < 153 → t j = 0) : k_PA t σ A := by
  obtain ⟨hR, hI⟩ := h
  refine ⟨k_PR_r hR hI.1.2 hI.2.2.1.2 hI.2.2.2.2.2.2.2.2.2.1.2 (fun j => (hI.2.2.2.2.2.2.1 j).2) ?_ fun j _ hj => hv j hj, hI⟩
  obtain ⟨m0, m1, m2, m3, m4, m5, m6, m7, m8, m9⟩ := hR.1
  refine ⟨by rw [hv 0 (by decide)]; exact m0, by rw [hv 1 (by decide)]; exact m1, by rw [hv 2 (by decide)]; exact m2, by rw [hv 3 (by decide)]; exact m3, fun j => ?_, fun j h1 h2 => by rw [hv j (by omega)]; exact m5 j h1 h2, fun j h1 h2 => by rw [hv j (by omega)]; exact m6 j h1 h2, fun j h1 h2 => by rw [hv j (by omega)]; exact m7 j h1 h2, fun j h1 h2 => by rw [hv j (by omega)]; exact m8 j h1 h2, fun j h1 => ?_⟩
  · by_cases w : j < 153
    · rw [hv j w]
      exact m4 j
    · rw [hz j w]
      decide
  · by_cases w : j < 153
    · rw [hv j w]
      exact m9 j h1
    · rw [hz j w]
      decide
end K_R43
