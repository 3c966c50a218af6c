/-! ===== writeTimetable, lineAt and type, alike ===== -/
section K_R37
variable {σ ρ τ : Nat → Nat → Int} {r : Nat → Int}
def k_Lr (σ ρ : Nat → Nat → Int) : Prop := (ρ 123 15 = σ 121 3 ∧ 0 ≤ σ 121 3) ∧ ∀ j : Nat, (j : Int) < σ 121 3 → ρ 129 j = σ 122 j
theorem k_Lr_cong {σ' ρ' : Nat → Nat → Int} (h : k_Lr σ ρ) (e1 : σ' 121 = σ 121) (e2 : σ' 122 = σ 122) (e3 : ρ' 123 15 = ρ 123 15) (e4 : ρ' 129 = ρ 129) : k_Lr σ' ρ' := by
  unfold k_Lr at h ⊢
  rw [e1, e2, e3, e4]
  exact h
theorem q_a_lineAt (h : k_Lr σ ρ) (hb : ∀ j, 0 ≤ σ 122 j ∧ σ 122 j < 128) {i : Int} : k_ag [x_io] (if 0 ≤ i ∧ i < σ 121 3 then .inl (some (.int (iI (σ 122 i.toNat)))) else .inr x_io) (m_lineAt ρ i).1 ((m_lineAt ρ i).2 123 7) := by
  unfold m_lineAt
  rw [h.1.1]
  by_cases q : 0 ≤ i ∧ i < σ 121 3
  · rw [if_pos q, if_pos (by omega)]
    dsimp only
    rw [k_up_same, show k_u1 (ρ 123) 7 0 7 = 0 from if_pos rfl, h.2 i.toNat (by omega)]
    have := hb i.toNat
    exact k_ag_v (by omega) rfl
  · rw [if_neg q, if_neg (by omega)]
    refine k_ag_x x_m1 ?_
    dsimp only
    rw [k_up_same]
    exact if_pos rfl
theorem ln_0 : k_Ln (u_set0 σ 121) (ρ 123) (k_u1 (ρ 123) 15 0, ρ 129) := by
  have e : u_set0 σ 121 121 3 = 0 := by
    unfold u_set0
    rw [k_up_same]
    exact if_pos rfl
  refine ⟨⟨?_, by omega⟩, fun j hj => by omega, fun j hj => ?_⟩
  · rw [e]
    show k_u1 (ρ 123) 15 0 15 = 0
    exact if_pos rfl
  · show k_u1 (ρ 123) 15 0 j = _
    exact if_neg hj
theorem q_tt1 (hR : k_P1 (ρ 124) σ) (hI : k_Ty σ) {p : Int} (hp : 0 ≤ p ∧ p < σ 1 2) : ∃ x : G_L, k_Ln (g_tt σ p (σ 1 1).toNat) (ρ 123) x ∧ m_writeTimetable ρ p = (x.1 15, k_up (k_up ρ 123 (k_u1 x.1 7 0)) 129 x.2) := by
  unfold m_writeTimetable
  rw [hR.2.1.1.2.2, hR.2.1.1.2.1, if_pos hp]
  by_cases q : p ≤ 9
  · rw [if_pos q]
    have h0 : k_Ln (u_tt0 σ p) (ρ 123) (g_pc (g_pc (k_u1 (ρ 123) 15 0, ρ 129) (48 + p % 10)) 58) := by
      have e : p % 10 = p := by omega
      rw [e]
      exact ln_C (ln_I ln_0 (by omega))
    exact ⟨_, (q_tt hR hI hp h0 (σ 1 1).toNat (Nat.le_refl _)).1, rfl⟩
  · rw [if_neg q]
    have h0 : k_Ln (u_tt0 σ p) (ρ 123) (g_pc (g_pc (g_pc (k_u1 (ρ 123) 15 0, ρ 129) (48 + p / 10)) (48 + p % 10)) 58) := ln_C (ln_I2 ln_0 (by omega))
    exact ⟨_, (q_tt hR hI hp h0 (σ 1 1).toNat (Nat.le_refl _)).1, rfl⟩
theorem q_a_writeTimetable (hR : k_P1 (ρ 124) σ) (hI : k_Ty σ) (hL : k_Lr σ ρ) {p : Int} (hv : -1 ≤ (m_writeTimetable ρ p).1 ∧ (m_writeTimetable ρ p).1 ≤ 1000) : k_ag [x_io] (if 0 ≤ p ∧ p < σ 1 2 then .inl (some (.int (iI (g_tt σ p (σ 1 1).toNat 121 3)))) else .inr x_io) (m_writeTimetable ρ p).1 ((m_writeTimetable ρ p).2 123 7) ∧ k_Lr (if 0 ≤ p ∧ p < σ 1 2 then g_tt σ p (σ 1 1).toNat else σ) (m_writeTimetable ρ p).2 ∧ (∀ j, j ≠ 7 → j ≠ 15 → (m_writeTimetable ρ p).2 123 j = ρ 123 j) ∧ ∀ i, i ≠ 123 → i ≠ 129 → (m_writeTimetable ρ p).2 i = ρ i := by
  by_cases h : 0 ≤ p ∧ p < σ 1 2
  · obtain ⟨x, ⟨⟨x1, x2⟩, x3, x4⟩, e⟩ := q_tt1 hR hI h
    rw [if_pos h, if_pos h]
    rw [e] at hv ⊢
    dsimp only at hv ⊢
    refine ⟨?_, ⟨⟨?_, x2⟩, ?_⟩, fun j h1 h2 => ?_, fun i h1 h2 => ?_⟩
    · rw [k_up_ne (by decide), k_up_same, show k_u1 x.1 7 0 7 = 0 from if_pos rfl]
      exact k_ag_v (by omega) x1.symm
    · rw [k_up_ne (by decide), k_up_same]
      exact (if_neg (by decide)).trans x1
    · rw [k_up_same]
      exact x3
    · rw [k_up_ne (by decide), k_up_same]
      exact (if_neg h1).trans (x4 j h2)
    · rw [k_up_ne h2, k_up_ne h1]
  · rw [if_neg h, if_neg h]
    have e : m_writeTimetable ρ p = (0, k_up ρ 123 (k_u1 (ρ 123) 7 1)) := by
      unfold m_writeTimetable
      rw [hR.2.1.1.2.2, if_neg h]
    rw [e]
    dsimp only
    refine ⟨k_ag_x x_m1 ?_, k_Lr_cong hL rfl rfl ?_ (k_up_ne (by decide)), fun j h1 h2 => ?_, fun i h1 h2 => k_up_ne h1⟩
    · rw [k_up_same]
      exact if_pos rfl
    · rw [k_up_same]
      exact if_neg (by decide)
    · rw [k_up_same]
      exact if_neg h1
/-- the program's text, as far as it is typed -/
def k_Bf (v : Nat) (σ ρ : Nat → Nat → Int) : Prop := (ρ 123 16 = σ 117 3 ∧ (0 ≤ σ 117 3 ∧ σ 117 3 ≤ 60)) ∧ ∀ j : Nat, (j : Int) < σ 117 3 → ρ 130 j = σ v j
theorem q_type_no {v : Nat} (h : k_Bf v σ ρ) {c : Int} (hc : ¬ (32 ≤ c ∧ c ≤ 126)) : m_type ρ c = (0, k_up ρ 123 (k_u1 (ρ 123) 7 1)) := if_neg hc
theorem q_type_full {v : Nat} (h : k_Bf v σ ρ) {c : Int} (hc : 32 ≤ c ∧ c ≤ 126) (hf : 60 ≤ σ 117 3) : m_type ρ c = (0, k_up ρ 123 (k_u1 (ρ 123) 7 2)) := (if_pos hc).trans (if_pos (by have := h.1.2; rw [h.1.1]; omega))
/-- one character more, wherever the class's text lies then -/
theorem q_type_in {v v' : Nat} (h : k_Bf v σ ρ) {c : Int} (hc : 32 ≤ c ∧ c ≤ 126) (hf : σ 117 3 < 60) (h3 : τ 117 3 = σ 117 3 + 1) (hcell : ∀ j : Nat, (j : Int) < σ 117 3 → τ v' j = σ v j) (hnew : τ v' (σ 117 3).toNat = c) : (m_type ρ c).1 = σ 117 3 + 1 ∧ (m_type ρ c).2 123 7 = 0 ∧ k_Bf v' τ (m_type ρ c).2 ∧ (∀ j, j ≠ 7 → j ≠ 16 → (m_type ρ c).2 123 j = ρ 123 j) ∧ ∀ i, i ≠ 123 → i ≠ 130 → (m_type ρ c).2 i = ρ i := by
  have e : m_type ρ c = (ρ 123 16 + 1, k_up (k_up ρ 123 (k_u1 (k_u1 (ρ 123) 16 (ρ 123 16 + 1)) 7 0)) 130 (k_u1 (ρ 130) (ρ 123 16).toNat c)) := (if_pos hc).trans (if_neg (by rw [h.1.1]; omega))
  have hh := h.1.2
  rw [e, h.1.1]
  dsimp only
  refine ⟨rfl, ?_, ⟨⟨?_, by omega⟩, fun j hj => ?_⟩, fun j h1 h2 => ?_, fun i h1 h2 => ?_⟩
  · rw [k_up_ne (by decide), k_up_same]
    exact if_pos rfl
  · rw [k_up_ne (by decide), k_up_same, h3]
    exact (if_neg (by decide)).trans (if_pos rfl)
  · rw [k_up_same]
    unfold k_u1
    by_cases q : j = (σ 117 3).toNat
    · rw [if_pos q, q]
      exact hnew.symm
    · rw [if_neg q, hcell j (by omega)]
      exact h.2 j (by omega)
  · rw [k_up_ne (by decide), k_up_same]
    exact (if_neg h1).trans (if_neg h2)
  · rw [k_up_ne h2, k_up_ne h1]
end K_R37
