/-! ===== A WHOLE CHANGE of the model's face against the class's ===== -/
section K_R30
variable {σ ρ τ : Nat → Nat → Int} {r : Nat → Int}
/-- what class and model share, texts aside -/
def k_Rel (σ ρ : Nat → Nat → Int) : Prop := k_P1 (ρ 124) σ ∧ k_Hs σ ρ ∧ k_Sv σ ρ ∧ ρ 123 9 = σ 23 4
def g_begin (ρ : Nat → Nat → Int) : Nat → Nat → Int := k_up (k_up ρ 123 (k_u1 (ρ 123) 8 (0))) 125 (ρ 124)
theorem g_begin_123 : g_begin ρ 123 = k_u1 (ρ 123) 8 0 := (k_up_ne (by decide)).trans k_up_same
theorem g_begin_125 : g_begin ρ 125 = ρ 124 := k_up_same
theorem g_begin_ne {i : Nat} (h1 : i ≠ 123) (h2 : i ≠ 125) : g_begin ρ i = ρ i := (k_up_ne h2).trans (k_up_ne h1)
def g_make (ρ : Nat → Nat → Int) (A : Int × (Nat → Nat → Int)) (x y : Int) : Int × (Nat → Nat → Int) := m_ends A.2 A.1 x y
/-- the end of any change whose fault, value and plan are alike -/
theorem q_end (hRel : k_Rel σ ρ) (hOK : k_OK σ) {e v : Int} {υ υe : Nat → Nat → Int} {A : Int × (Nat → Nat → Int)} (hF : k_Fr A.2 (g_begin ρ)) (h8 : A.2 123 8 = e) (h0 : e ≠ 0 → A.1 = 0 ∧ A.2 124 = ρ 124 ∧ k_PlEq υe σ ∧ (∀ i, 24 ≤ i → i < 107 → υe i = σ i) ∧ υe 0 10 = σ 0 10 ∧ A.2 123 9 = υe 23 4) (h1 : e = 0 → A.1 = v ∧ k_P1 (A.2 124) υ ∧ (∀ i, 24 ≤ i → i < 98 → υ i = u_keepB σ 1 i) ∧ (∀ i, 98 ≤ i → i < 107 → υ i = σ i) ∧ υ 0 10 = σ 0 10 ∧ A.2 123 9 = υ 23 4) (x y : Int) : k_Rel (if e = 0 then υ else υe) (m_ends A.2 A.1 x y).2 ∧ (e = 0 → (m_ends A.2 A.1 x y).1 = v ∧ (m_ends A.2 A.1 x y).2 123 7 = 0) ∧ (e ≠ 0 → (m_ends A.2 A.1 x y).1 = 0 ∧ (m_ends A.2 A.1 x y).2 123 7 = if e = x then 1 else if e = y then 2 else 3) := by
  obtain ⟨hR, hH, hV, h9⟩ := hRel
  obtain ⟨hI, hS, hC, hA, hHi⟩ := hOK
  have f123 : ∀ j, j ≠ 8 → j ≠ 9 → j ≠ 19 → A.2 123 j = ρ 123 j := fun j a b c => (hF.2 j a b c).trans (by rw [g_begin_123]; exact if_neg a)
  have f128 : A.2 128 = ρ 128 := (hF.1 128 (by omega)).trans (g_begin_ne (by decide) (by decide))
  have f126 : A.2 126 = ρ 126 := (hF.1 126 (by omega)).trans (g_begin_ne (by decide) (by decide))
  have f125 : A.2 125 = ρ 124 := (hF.1 125 (by omega)).trans g_begin_125
  have f5 : A.2 123 5 = ρ 123 5 := f123 5 (by decide) (by decide) (by decide)
  have f6 : A.2 123 6 = ρ 123 6 := f123 6 (by decide) (by decide) (by decide)
  by_cases q : e = 0
  · obtain ⟨a1, a2, a3, a4, a5, a6⟩ := h1 q
    rw [if_pos q]
    have hc := hHi.2.2
    have hE := m_ends_0 (τ := A.2) (h8.trans q) (by rw [f5, hH.1]; exact hc) A.1 x y
    generalize m_ends A.2 A.1 x y = Y at hE ⊢
    obtain ⟨b1, b2, b3, b4, b5, b6, b7⟩ := hE
    rw [f5, hH.1] at b3 b6 b7
    refine ⟨⟨?_, ?_, ?_, ?_⟩, fun _ => ⟨b1.trans a1, b2⟩, fun z => absurd q z⟩
    · rw [b5 124 (by decide) (by decide)]
      exact a2
    · refine q_keep hH hHi ?_ a3 (by rw [b3, hH.1]) (fun u hu => ?_)
      · refine k_PA_1.mpr ⟨k_PR_r (show k_PR (ρ 124) _ _ _ _ _ _ _ _ _ from hR) hI.1.2 hI.2.2.1.2 hI.2.2.2.2.2.2.2.2.2.1.2 (fun j => (hI.2.2.2.2.2.2.1 j).2) ?_ fun j _ hj => ?_, hI⟩
        · obtain ⟨m0, m1, m2, m3, m4, m5, m6, m7, m8, m9⟩ := hR.1
          have hv : ∀ j, j < 153 → g_tail (Y.2 128) (if σ 24 2 = 8 then 7 else (σ 24 2).toNat) j = ρ 124 j := fun j hj => (b6 j hj).trans (by rw [f125])
          have hz : ∀ j, ¬ j < 153 → g_tail (Y.2 128) (if σ 24 2 = 8 then 7 else (σ 24 2).toNat) j = 0 := fun j hj => if_neg hj
          generalize g_tail (Y.2 128) (if σ 24 2 = 8 then 7 else (σ 24 2).toNat) = t at hv hz
          refine ⟨by rw [hv 0 (by decide)]; exact m0, by rw [hv 1 (by decide)]; exact m1, by rw [hv 2 (by decide)]; exact m2, by rw [hv 3 (by decide)]; exact m3, fun j => ?_, fun j h1 h2 => by rw [hv j (by omega)]; exact m5 j h1 h2, fun j h1 h2 => by rw [hv j (by omega)]; exact m6 j h1 h2, fun j h1 h2 => by rw [hv j (by omega)]; exact m7 j h1 h2, fun j h1 h2 => by rw [hv j (by omega)]; exact m8 j h1 h2, fun j h1 => ?_⟩
          · by_cases w : j < 153
            · rw [hv j w]
              exact m4 j
            · rw [hz j w]
              decide
          · by_cases w : j < 153
            · rw [hv j w]
              exact m9 j h1
            · rw [hz j w]
              decide
        · exact (b6 j hj).trans (by rw [f125])
      · rw [b7 u hu, f128]
    · exact k_Sv_cong hV a4 a5 ((b4 6 (by decide) (by decide)).trans f6) ((b5 126 (by decide) (by decide)).trans f126)
    · rw [b4 9 (by decide) (by decide)]
      exact a6
  · obtain ⟨a1, a2, a3, a4, a5, a6⟩ := h0 q
    rw [if_neg q]
    obtain ⟨b1, b2⟩ := m_ends_1 (τ := A.2) (by rw [h8]; exact q) A.1 x y
    have e123 : ∀ j, j ≠ 7 → (m_ends A.2 A.1 x y).2 123 j = A.2 123 j := fun j hj => by
      rw [b2, k_up_same]
      exact if_neg hj
    have ene : ∀ i, i ≠ 123 → (m_ends A.2 A.1 x y).2 i = A.2 i := fun i hi => by rw [b2, k_up_ne hi]
    refine ⟨⟨?_, ?_, ?_, ?_⟩, fun z => absurd z q, fun _ => ⟨b1, ?_⟩⟩
    · rw [ene 124 (by decide), a2]
      exact k_P1_pl a3 hR
    · exact k_Hs_cong hH hHi (fun i h1 h2 => a4 i h1 (by omega)) ((e123 5 (by decide)).trans f5) ((ene 128 (by decide)).trans f128)
    · exact k_Sv_cong hV (fun i h1 h2 => a4 i (by omega) h2) a5 ((e123 6 (by decide)).trans f6) ((ene 126 (by decide)).trans f126)
    · rw [e123 9 (by decide)]
      exact a6
    · rw [b2, k_up_same, h8]
      exact if_pos rfl
end K_R30
