/-! ===== UNDOING and RESTORING: alike ===== -/
section K_R33
variable {σ ρ τ : Nat → Nat → Int} {r : Nat → Int}
theorem k_P1_r2 {r' : Nat → Int} (h : k_P1 r σ) (hI : k_Ty σ) (hM : k_Mo r') (ha : ∀ j, j < 153 → r' j = r j) : k_P1 r' σ := k_P1_r h hI hM fun j _ hj => ha j hj
theorem g_last_slot (hH : k_Hi σ) (h0 : 0 < σ 24 2) : (u_last σ).toNat = (g_slot (σ 24 1) (σ 24 2) (((σ 24 2 - 1).toNat : Nat) : Int)).toNat ∧ 0 ≤ u_last σ ∧ u_last σ < 8 := by
  have hn := hH.2.1
  have hc := hH.2.2
  unfold u_last g_slot
  split <;> omega
theorem u_back_ne {i : Nat} (h : i = 0 ∨ 10 ≤ i) (h24 : i ≠ 24) : u_back σ i = σ i := by
  unfold u_back
  rw [k_up_ne h24]
  exact u_copy_ne (by omega)
theorem u_back_24 : u_back σ 24 = k_u1 (k_u1 (σ 24) 1 (u_last σ)) 2 (σ 24 2 - 1) := k_up_same
theorem q_undo1 (hRel : k_Rel σ ρ) (hOK : k_OK σ) (h0 : 0 < σ 24 2) (hMo : k_Mo ((m_undo ρ).2 124)) : ((m_undo ρ).1 = u_back σ 24 2 ∧ (m_undo ρ).2 123 7 = 0) ∧ k_Rel (u_back σ) (m_undo ρ).2 ∧ k_OK (u_back σ) := by
  obtain ⟨hR, ⟨hH1, hH2⟩, hV, h9⟩ := hRel
  obtain ⟨hI, hS, hC, hA, hHi⟩ := hOK
  have hn := hHi.2.1
  have hc := hHi.2.2
  obtain ⟨sl, l0, l8⟩ := g_last_slot hHi h0
  have em : m_undo ρ = (ρ 123 5 - 1, k_up (k_up ρ 123 (k_u1 (k_u1 (ρ 123) 5 (ρ 123 5 - 1)) 7 0)) 124 (k_it (b_undo_25 ρ) 153 0 (ρ 124))) := if_neg (by rw [hH1]; omega)
  have hrow : ∀ j, j < 153 → k_it (b_undo_25 ρ) 153 0 (ρ 124) j = g_tail (ρ 128) (σ 24 2 - 1).toNat j := fun j hj => by
    rw [z_itw (fun i => ρ 128 (153 * (σ 24 2 - 1).toNat + i)) (ρ 124) 0 (b_undo_25 ρ) (fun i x => by
      unfold b_undo_25
      rw [Int.toNat_natCast, hH1, Nat.zero_add, show (153 * (σ 24 2 - 1) + (i : Int)).toNat = 153 * (σ 24 2 - 1).toNat + i by omega]), if_pos (by omega)]
    exact (if_pos hj).symm
  have hPA := hH2 (σ 24 2 - 1).toNat (by omega)
  rw [← sl] at hPA
  have hb : k_PA (g_tail (ρ 128) (σ 24 2 - 1).toNat) (u_back σ) 1 := k_PA_cong (u_copy_PA (A := 1) hPA) fun i h1 h2 => k_up_ne (by omega)
  obtain ⟨hP, hT⟩ := k_PA_1.mp hb
  have s1 : u_back σ 24 1 = u_last σ := by
    rw [u_back_24]
    exact (if_neg (by decide)).trans (if_pos rfl)
  have s2 : u_back σ 24 2 = σ 24 2 - 1 := by
    rw [u_back_24]
    exact if_pos rfl
  rw [em] at hMo ⊢
  dsimp only at hMo ⊢
  rw [k_up_same] at hMo
  refine ⟨⟨by rw [s2, hH1], ?_⟩, ⟨?_, ⟨?_, fun u hu => ?_⟩, ?_, ?_⟩, hT, k_Sc_of hS (u_back_ne (by decide) (by decide)) (u_back_ne (by decide) (by decide)) (u_back_ne (by decide) (by decide)), k_Ch_of hC (u_back_ne (by decide) (by decide)) (u_back_ne (by decide) (by decide)) (u_back_ne (by decide) (by decide)), k_Ar_of hA (u_back_ne (by decide) (by decide)) (u_back_ne (by decide) (by decide)) (u_back_ne (by decide) (by decide)) (u_back_ne (by decide) (by decide)), ?_, ?_, ?_⟩
  · rw [k_up_ne (by decide), k_up_same]
    exact if_pos rfl
  · rw [k_up_same]
    exact k_P1_r2 hP hT hMo hrow
  · rw [k_up_ne (by decide), k_up_same, s2, ← hH1]
    exact (if_neg (by decide)).trans (if_pos rfl)
  · rw [s2] at hu
    rw [s1, s2]
    rw [k_up_ne (by decide), k_up_ne (by decide)]
    have e : (g_slot (u_last σ) (σ 24 2 - 1) (u : Int)).toNat = (g_slot (σ 24 1) (σ 24 2) (u : Int)).toNat := by
      unfold u_last g_slot
      split <;> omega
    rw [e]
    have h8 : (g_slot (σ 24 1) (σ 24 2) (u : Int)).toNat < 8 := by
      unfold g_slot
      omega
    exact k_PA_cong (hH2 u (by omega)) fun i h1 h2 => u_back_ne (by omega) (by omega)
  · refine k_Sv_cong hV (fun i h1 h2 => u_back_ne (by omega) (by omega)) (congrFun (u_back_ne (by decide) (by decide)) 10) ?_ ?_
    · rw [k_up_ne (by decide), k_up_same]
      exact (if_neg (by decide)).trans (if_neg (by decide))
    · rw [k_up_ne (by decide), k_up_ne (by decide)]
  · rw [k_up_ne (by decide), k_up_same, u_back_ne (by decide) (by decide)]
    exact ((if_neg (by decide)).trans (if_neg (by decide))).trans h9
  · rw [u_back_ne (by decide) (by decide)]
    exact hHi.1
  · rw [s1]
    exact ⟨l0, l8⟩
  · rw [s2]
    omega
theorem k_Rel_7 (h : k_Rel σ ρ) (z : Int) : k_Rel σ (k_up ρ 123 (k_u1 (ρ 123) 7 z)) := by
  obtain ⟨hR, ⟨hH1, hH2⟩, ⟨hV1, hV2⟩, h9⟩ := h
  have e : ∀ j, j ≠ 7 → k_up ρ 123 (k_u1 (ρ 123) 7 z) 123 j = ρ 123 j := fun j hj => by
    rw [k_up_same]
    exact if_neg hj
  have e2 : ∀ i, i ≠ 123 → k_up ρ 123 (k_u1 (ρ 123) 7 z) i = ρ i := fun i hi => k_up_ne hi
  generalize k_up ρ 123 (k_u1 (ρ 123) 7 z) = ρ' at e e2 ⊢
  refine ⟨by rw [e2 124 (by decide)]; exact hR, ⟨by rw [e 5 (by decide)]; exact hH1, by rw [e2 128 (by decide)]; exact hH2⟩, ⟨by rw [e 6 (by decide)]; exact hV1, by rw [e2 126 (by decide)]; exact hV2⟩, by rw [e 9 (by decide)]; exact h9⟩
theorem q_a_undo (hRel : k_Rel σ ρ) (hOK : k_OK σ) (hMo : k_Mo ((m_undo ρ).2 124)) : k_ag [x_is] (if 0 < σ 24 2 then .inl (some (.int (iI (u_back σ 24 2)))) else .inr x_is) (m_undo ρ).1 ((m_undo ρ).2 123 7) ∧ k_Rel (if 0 < σ 24 2 then u_back σ else σ) (m_undo ρ).2 ∧ k_OK (if 0 < σ 24 2 then u_back σ else σ) := by
  have hc := hOK.2.2.2.2.2.2
  by_cases h : 0 < σ 24 2
  · rw [if_pos h, if_pos h]
    obtain ⟨⟨h1, h2⟩, h3, h4⟩ := q_undo1 hRel hOK h hMo
    rw [h2]
    have h5 : (m_undo ρ).1 = σ 24 2 - 1 := by
      rw [h1, u_back_24]
      exact if_pos rfl
    exact ⟨k_ag_v (by omega) h1.symm, h3, h4⟩
  · rw [if_neg h, if_neg h]
    have em : m_undo ρ = (0, k_up ρ 123 (k_u1 (ρ 123) 7 1)) := if_pos (by rw [hRel.2.1.1]; omega)
    rw [em]
    refine ⟨k_ag_x x_m1 ?_, k_Rel_7 hRel 1, hOK⟩
    dsimp only
    rw [k_up_same]
    exact if_pos rfl
theorem q_a_restore (hRel : k_Rel σ ρ) (hOK : k_OK σ) : k_ag [x_is] (if σ 0 10 = 0 then .inr x_is else .inl (some (.int (iI (σ 98 2))))) (m_restore ρ).1 ((m_restore ρ).2 123 7) ∧ k_Rel (if σ 0 10 = 0 then σ else k_up (u_copy σ 1 98) 24 (k_u1 (σ 24) 2 0)) (m_restore ρ).2 ∧ k_OK (if σ 0 10 = 0 then σ else k_up (u_copy σ 1 98) 24 (k_u1 (σ 24) 2 0)) := by
  have hRel' := hRel
  obtain ⟨hR, ⟨hH1, hH2⟩, ⟨hV1, hV2⟩, h9⟩ := hRel
  by_cases h : σ 0 10 = 0
  · rw [if_pos h, if_pos h]
    have em : m_restore ρ = (0, k_up ρ 123 (k_u1 (ρ 123) 7 1)) := if_pos (by rw [hV1]; exact h)
    rw [em]
    refine ⟨k_ag_x x_m1 ?_, k_Rel_7 hRel' 1, hOK⟩
    dsimp only
    rw [k_up_same]
    exact if_pos rfl
  · rw [if_neg h, if_neg h]
    have em : m_restore ρ = (ρ 126 2, k_up (k_up ρ 123 (k_u1 (k_u1 (ρ 123) 5 0) 7 0)) 124 (ρ 126)) := if_neg (by rw [hV1]; exact h)
    rw [em]
    obtain ⟨hI, hS, hC, hA, hHi⟩ := hOK
    have hPA := hV2 h
    have hb : k_PA (ρ 126) (k_up (u_copy σ 1 98) 24 (k_u1 (σ 24) 2 0)) 1 := k_PA_cong (u_copy_PA (A := 1) hPA) fun i h1 h2 => k_up_ne (by omega)
    obtain ⟨hP, hT⟩ := k_PA_1.mp hb
    have e2 : ρ 126 2 = σ 98 2 := hPA.1.2.1.1.2.2
    have hM := k_Mo_all hPA.1.1 2
    have ene : ∀ i, (i = 0 ∨ 10 ≤ i) → i ≠ 24 → k_up (u_copy σ 1 98) 24 (k_u1 (σ 24) 2 0) i = σ i := fun i hi h24 => (k_up_ne h24).trans (u_copy_ne (by omega))
    have e24 : k_up (u_copy σ 1 98) 24 (k_u1 (σ 24) 2 0) 24 = k_u1 (σ 24) 2 0 := k_up_same
    generalize k_up (u_copy σ 1 98) 24 (k_u1 (σ 24) 2 0) = τ at hb hP hT ene e24 ⊢
    dsimp only
    refine ⟨?_, ⟨?_, ⟨?_, fun u hu => ?_⟩, ?_, ?_⟩, hT, k_Sc_of hS (ene _ (by decide) (by decide)) (ene _ (by decide) (by decide)) (ene _ (by decide) (by decide)), k_Ch_of hC (ene _ (by decide) (by decide)) (ene _ (by decide) (by decide)) (ene _ (by decide) (by decide)), k_Ar_of hA (ene _ (by decide) (by decide)) (ene _ (by decide) (by decide)) (ene _ (by decide) (by decide)) (ene _ (by decide) (by decide)), ?_, ?_, ?_⟩
    · rw [k_up_ne (by decide), k_up_same, show k_u1 (k_u1 (ρ 123) 5 0) 7 0 7 = 0 from if_pos rfl]
      exact k_ag_v (by omega) e2.symm
    · rw [k_up_same]
      exact hP
    · rw [k_up_ne (by decide), k_up_same, e24]
      exact ((if_neg (by decide)).trans (if_pos rfl)).trans (if_pos rfl).symm
    · rw [e24] at hu
      have hu : (u : Int) < 0 := hu
      omega
    · refine k_Sv_cong ⟨hV1, hV2⟩ (fun i h1 h2 => ene i (by omega) (by omega)) (congrFun (ene 0 (by decide) (by decide)) 10) ?_ ?_
      · rw [k_up_ne (by decide), k_up_same]
        exact (if_neg (by decide)).trans (if_neg (by decide))
      · rw [k_up_ne (by decide), k_up_ne (by decide)]
    · rw [k_up_ne (by decide), k_up_same, ene 23 (by decide) (by decide)]
      exact ((if_neg (by decide)).trans (if_neg (by decide))).trans h9
    · rw [ene 25 (by decide) (by decide)]
      exact hHi.1
    · rw [e24]
      exact hHi.2.1
    · rw [e24]
      exact ⟨Int.le_refl 0, show (0 : Int) ≤ 8 by decide⟩
end K_R33
