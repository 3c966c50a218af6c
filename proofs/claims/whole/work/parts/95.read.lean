/-! ===== READING a number and a sign, alike ===== -/
section K_R39
variable {σ ρ τ : Nat → Nat → Int} {r : Nat → Int} {v : Nat}
/-- the text that both read, and where they stand -/
def k_Tx (v : Nat) (σ ρ : Nat → Nat → Int) : Prop := (ρ 123 28 = σ 117 3 ∧ v ≠ 116 ∧ v ≠ 117 ∧ v ≠ 120) ∧ ∀ j : Nat, (j : Int) < σ 117 3 → ρ 130 j = σ v j
theorem k_Tx_at (h : k_Tx v σ ρ) (a : Int) : k_Tx v (u_at σ a) ρ := by
  obtain ⟨⟨h1, h2, h3, h4⟩, h5⟩ := h
  have e1 : u_at σ a 117 = σ 117 := k_up_ne (by decide)
  have e2 : u_at σ a v = σ v := k_up_ne h2
  refine ⟨⟨by rw [e1]; exact h1, h2, h3, h4⟩, ?_⟩
  rw [e1, e2]
  exact h5
theorem k_Tx_num (h : k_Tx v σ ρ) (ce a : Int) : k_Tx v (u_num σ ce a) ρ := by
  obtain ⟨⟨h1, h2, h3, h4⟩, h5⟩ := h
  have e1 : u_num σ ce a 117 = σ 117 := k_up_ne (by decide)
  have e2 : u_num σ ce a v = σ v := k_up_ne h4
  refine ⟨⟨by rw [e1]; exact h1, h2, h3, h4⟩, ?_⟩
  rw [e1, e2]
  exact h5
theorem u_at_4 (a : Int) : u_at σ a 116 4 = a := by
  unfold u_at
  rw [k_up_same]
  exact if_pos rfl
theorem q_digit (h : k_Tx v σ ρ) (h0 : 0 ≤ σ 116 4) : (m_isDigit (ρ 123) (ρ 130) (σ 116 4) = true ↔ f_dgt σ v ≠ -1) ∧ (f_dgt σ v ≠ -1 → f_dgt σ v = ρ 130 (σ 116 4).toNat - 48 ∧ σ 116 4 < σ 117 3) := by
  obtain ⟨⟨h1, -⟩, h5⟩ := h
  unfold m_isDigit f_dgt
  rw [h1]
  by_cases q : σ 116 4 < σ 117 3
  · have eh : f_here σ v = ρ 130 (σ 116 4).toNat := (if_pos (show 0 ≤ σ 116 4 ∧ σ 116 4 < σ 117 3 from ⟨h0, q⟩)).trans (h5 (σ 116 4).toNat (by omega)).symm
    rw [if_pos q, eh]
    generalize ρ 130 (σ 116 4).toNat = z
    by_cases w : z < 48
    · rw [if_pos w, if_neg (show ¬ (48 ≤ z ∧ z ≤ 57) by omega)]
      exact ⟨⟨fun y => (by cases y), fun y => absurd rfl y⟩, fun y => absurd rfl y⟩
    · rw [if_neg w]
      by_cases u : z ≤ 57
      · rw [if_pos u, if_pos (show 48 ≤ z ∧ z ≤ 57 by omega)]
        exact ⟨⟨fun _ => (by omega), fun _ => rfl⟩, fun _ => ⟨rfl, q⟩⟩
      · rw [if_neg u, if_neg (show ¬ (48 ≤ z ∧ z ≤ 57) by omega)]
        exact ⟨⟨fun y => (by cases y), fun y => absurd rfl y⟩, fun y => absurd rfl y⟩
  · have eh : f_here σ v = 32 := if_neg (show ¬ (0 ≤ σ 116 4 ∧ σ 116 4 < σ 117 3) from fun y => q y.2)
    rw [if_neg q, eh, if_neg (show ¬ ((48 : Int) ≤ 32 ∧ (32 : Int) ≤ 57) by decide)]
    exact ⟨⟨fun y => (by cases y), fun y => absurd rfl y⟩, fun y => absurd rfl y⟩
theorem q_sign (h : k_Tx v σ ρ) (h0 : 0 ≤ σ 116 4) (c : Int) : f_st σ v c ↔ σ 116 4 < ρ 123 28 ∧ ρ 130 (σ 116 4).toNat = c := by
  obtain ⟨⟨h1, -⟩, h5⟩ := h
  rw [h1]
  constructor
  · rintro ⟨⟨_, q⟩, w⟩
    exact ⟨q, (h5 _ (by omega)).trans w⟩
  · rintro ⟨q, w⟩
    exact ⟨⟨h0, q⟩, (h5 (σ 116 4).toNat (by omega)).symm.trans w⟩
end K_R39
