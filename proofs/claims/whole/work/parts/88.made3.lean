/-! ===== SIZES SET, WITHDRAWING, UNDOING, SAVING, RESTORING: alike ===== -/
section K_R32
variable {σ ρ τ : Nat → Nat → Int} {r : Nat → Int}
theorem m_setSizeNow_fr (s z : Int) : k_Fr (m_setSizeNow σ s z).2 σ := by
  unfold m_setSizeNow
  split
  · split
    · refine k_els_inv (C := fun t : Int × (Nat → Nat → Int) => k_Fr t.2 σ) (fun x => k_Fr_r k_Fr_rf) (fun i x => ?_) _ 0 _
      unfold b_setSizeNow_32
      split
      · trivial
      · exact k_Fr_8 k_Fr_rf
    · exact k_Fr_8 k_Fr_rf
  · exact k_Fr_8 k_Fr_rf
theorem m_withdrawNow_fr (p : Int) : k_Fr (m_withdrawNow σ p).2 σ := by
  unfold m_withdrawNow
  (repeat' split) <;> first | exact k_Fr_8 k_Fr_rf | exact k_Fr_r k_Fr_rf
/-- a change that is made on the kept plan, without its number -/
theorem q_made1 (hRel : k_Rel σ ρ) (hOK : k_OK σ) {e e' v v' : Int} {υ' υ : Nat → Nat → Int} {A : Int × (Nat → Nat → Int)} (hF : k_Fr A.2 (g_begin ρ)) (h1 : k_op e v' υ' (g_begin ρ) A) (h2 : k_op e' v υ (g_begin ρ) A) (h4 : e ≠ 4) (hυ : ∀ i, i = 0 ∨ 23 ≤ i → υ i = u_kep σ i) (x y : Int) : k_Rel (if e = 0 then υ else σ) (m_ends A.2 A.1 x y).2 ∧ (e = 0 → (m_ends A.2 A.1 x y).1 = v ∧ (m_ends A.2 A.1 x y).2 123 7 = 0) ∧ (e ≠ 0 → (m_ends A.2 A.1 x y).1 = 0 ∧ (m_ends A.2 A.1 x y).2 123 7 = if e = x then 1 else if e = y then 2 else 3) := by
  have b124 : g_begin ρ 124 = ρ 124 := g_begin_ne (by decide) (by decide)
  have h81 : g_begin ρ 123 8 = 0 := by rw [g_begin_123]; exact if_pos rfl
  have h91 : g_begin ρ 123 9 = σ 23 4 := by rw [g_begin_123]; exact (if_neg (by decide)).trans hRel.2.2.2
  have k1 := k_op_e h81 h1
  have k2 := k_op_e h81 h2
  have hn := hOK.2.2.2.2.2.1
  have k9 : A.2 123 9 = σ 23 4 := (h1.2 h4).trans h91
  refine q_end hRel hOK hF k1.symm (fun h0 => ?_) (fun h0 => ?_) x y
  · rcases h1.1 with ⟨-, g2, -, g4⟩ | ⟨g1, -⟩
    · exact ⟨g2, g4.trans b124, k_PlEq.refl, fun _ _ _ => rfl, rfl, k9⟩
    · exact absurd g1 h0
  · rcases h2.1 with ⟨g1, -⟩ | ⟨-, g2, -, g4⟩
    · exact absurd (k2.trans (k1.symm.trans h0)) g1
    · refine ⟨g2, g4, fun i h1 h2 => hυ i (Or.inr (by omega)), fun i h1 h2 => (hυ i (Or.inr (by omega))).trans (u_keepB_ne hn (Or.inr h1)), ?_, ?_⟩
      · exact congrFun ((hυ 0 (Or.inl rfl)).trans (u_keepB_ne hn (Or.inl (by decide)))) 10
      · rw [k9]
        exact (congrFun ((hυ 23 (Or.inr (by decide))).trans (u_keepB_ne hn (Or.inl (by decide)))) 4).symm
theorem q_m_setSize (hRel : k_Rel σ ρ) (hOK : k_OK σ) (s z : Int) : k_Rel (if e_resize σ s z = 0 then k_up (u_kep σ) 2 (k_u1 (u_kep σ 2) s.toNat z) else σ) (m_setSize ρ s z).2 ∧ (e_resize σ s z = 0 → (m_setSize ρ s z).1 = u_kep σ 2 s.toNat ∧ (m_setSize ρ s z).2 123 7 = 0) ∧ (e_resize σ s z ≠ 0 → (m_setSize ρ s z).1 = 0 ∧ (m_setSize ρ s z).2 123 7 = if e_resize σ s z = 1 then 1 else if e_resize σ s z = 2 then 2 else 3) := by
  have hR1 : k_P1 (g_begin ρ 124) σ := by rw [g_begin_ne (by decide) (by decide)]; exact hRel.1
  have hK : k_OK (u_kep σ) := k_OK_keep hOK
  have hRK : k_P1 (g_begin ρ 124) (u_kep σ) := k_P1_pl (k_kep_pl hOK.2.2.2.2) hR1
  exact q_made1 hRel hOK (m_setSizeNow_fr s z) (q_o_setSize hR1 hOK.1 s z) (q_o_setSize hRK hK.1 s z) (by unfold e_resize; (repeat' split) <;> decide) (fun i hi => k_up_ne (by omega)) 1 2
theorem q_m_withdraw (hRel : k_Rel σ ρ) (hOK : k_OK σ) (p : Int) : k_Rel (if e_withdraw σ p = 0 then u_drop (u_kep σ) p else σ) (m_withdraw ρ p).2 ∧ (e_withdraw σ p = 0 → (m_withdraw ρ p).1 = f_lessons (u_kep σ) p ∧ (m_withdraw ρ p).2 123 7 = 0) ∧ (e_withdraw σ p ≠ 0 → (m_withdraw ρ p).1 = 0 ∧ (m_withdraw ρ p).2 123 7 = if e_withdraw σ p = 1 then 1 else if e_withdraw σ p = 3 then 2 else 3) := by
  have hR1 : k_P1 (g_begin ρ 124) σ := by rw [g_begin_ne (by decide) (by decide)]; exact hRel.1
  have hK : k_OK (u_kep σ) := k_OK_keep hOK
  have hRK : k_P1 (g_begin ρ 124) (u_kep σ) := k_P1_pl (k_kep_pl hOK.2.2.2.2) hR1
  exact q_made1 hRel hOK (m_withdrawNow_fr p) (q_o_withdraw hR1 hOK.1 p) (q_o_withdraw hRK hK.1 p) (by unfold e_withdraw; (repeat' split) <;> decide) (fun i hi => u_dropN_ne p _ (by omega)) 1 3
/-- saving -/
theorem q_save (hRel : k_Rel σ ρ) (hI : k_Ty σ) : (m_save ρ).1 = σ 1 2 ∧ k_Rel (k_up (u_copy σ 98 1) 0 (k_u1 (σ 0) 10 1)) (m_save ρ).2 := by
  obtain ⟨hR, ⟨hH1, hH2⟩, hV, h9⟩ := hRel
  have em : m_save ρ = (ρ 124 2, k_up (k_up ρ 123 (k_u1 (k_u1 (ρ 123) 6 1) 7 0)) 126 (ρ 124)) := rfl
  rw [em]
  refine ⟨hR.2.1.1.2.2, ?_, ?_, ?_, ?_⟩
  · dsimp only
    rw [k_up_ne (show (124 : Nat) ≠ 126 by decide), k_up_ne (show (124 : Nat) ≠ 123 by decide)]
    exact hR
  · refine ⟨?_, fun u hu => ?_⟩
    · show k_up (k_up ρ 123 (k_u1 (k_u1 (ρ 123) 6 1) 7 0)) 126 (ρ 124) 123 5 = σ 24 2
      rw [k_up_ne (by decide), k_up_same]
      exact ((if_neg (by decide)).trans (if_neg (by decide))).trans hH1
    · have hu : (u : Int) < σ 24 2 := hu
      dsimp only
      rw [k_up_ne (show (128 : Nat) ≠ 126 by decide), k_up_ne (show (128 : Nat) ≠ 123 by decide)]
      refine k_PA_cong (A := 26 + 9 * (g_slot (σ 24 1) (σ 24 2) (u : Int)).toNat) (hH2 u hu) fun i h1 h2 => ?_
      have : (g_slot (σ 24 1) (σ 24 2) (u : Int)).toNat < 8 := by
        unfold g_slot
        omega
      rw [k_up_ne (by omega)]
      exact u_copy_ne (by omega)
  · refine ⟨?_, fun _ => ?_⟩
    · show k_up (k_up ρ 123 (k_u1 (k_u1 (ρ 123) 6 1) 7 0)) 126 (ρ 124) 123 6 = k_up (u_copy σ 98 1) 0 (k_u1 (σ 0) 10 1) 0 10
      rw [k_up_ne (by decide), k_up_same, k_up_same]
      exact ((if_neg (by decide)).trans (if_pos rfl)).trans (if_pos rfl).symm
    · dsimp only
      rw [k_up_same]
      exact k_PA_cong (u_copy_PA (A := 98) (k_PA_1.mpr ⟨hR, hI⟩)) fun i h1 h2 => k_up_ne (by omega)
  · show k_up (k_up ρ 123 (k_u1 (k_u1 (ρ 123) 6 1) 7 0)) 126 (ρ 124) 123 9 = σ 23 4
    rw [k_up_ne (by decide), k_up_same]
    exact ((if_neg (by decide)).trans (if_neg (by decide))).trans h9
end K_R32
