/-! ===== UNDOING and RESTORING: alike ===== -/
section K_R33
variable {σ ρ τ : Nat → Nat → Int} {r : Nat → Int}
theorem k_P1_r2 {r' : Nat → Int} (h : k_P1 r σ) (hI : k_Ty σ) (hM : k_Mo r') (ha : ∀ j, j < 153 → r' j = r j) : k_P1 r' σ := k_P1_r h hI hM fun j _ hj => ha j hj
theorem g_last_slot (hH : k_Hi σ) (h0 : 0 < σ 24 2) : (u_last σ).toNat = (g_slot (σ 24 1) (σ 24 2) (((σ 24 2 - 1).toNat : Nat) : Int)).toNat ∧ 0 ≤ u_last σ ∧ u_last σ < 8 := by
  have hn := hH.2.1
  have hc := hH.2.2
  unfold u_last g_slot
  split <;> omega
theorem u_back_ne {i : Nat} (h : i = 0 ∨ 10 ≤ i) (h24 : i ≠ 24) : u_back σ i = σ i := by
  unfold u_back
  rw [k_up_ne h24]
  exact u_copy_ne (by omega)
theorem u_back_24 : u_back σ 24 = k_u1 (k_u1 (σ 24) 1 (u_last σ)) 2 (σ 24 2 - 1) := k_up_same
end K_R33
