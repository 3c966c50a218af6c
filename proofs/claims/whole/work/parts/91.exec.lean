/-! ===== EXECUTING: the commands one after another, alike ===== -/
section K_R35
variable {σ ρ τ : Nat → Nat → Int} {r : Nat → Int}
/-- the commands as both have read them: what they do is the same, whatever numbers they don't use -/
def k_Cm (N : Nat) (τ ρ : Nat → Nat → Int) : Prop := ∀ i : Nat, i < N → ∀ υ, m_acts υ (ρ 138 i) (ρ 139 (3 * i)) (ρ 139 (3 * i + 1)) (ρ 139 (3 * i + 2)) = m_acts υ (f_cm τ (i : Int)) (f_ca τ (i : Int)) (f_cb τ (i : Int)) (f_cc τ (i : Int))
theorem k_Cm_cong {N : Nat} {τ' ρ' : Nat → Nat → Int} (h : k_Cm N τ ρ) (e1 : τ' 119 = τ 119) (e2 : τ' 120 = τ 120) (e3 : ρ' 138 = ρ 138) (e4 : ρ' 139 = ρ 139) : k_Cm N τ' ρ' := by
  unfold k_Cm f_cm f_ca f_cb f_cc at h ⊢
  rw [e1, e2, e3, e4]
  exact h
theorem q_exec (R : Nat → Nat → Int) {N : Nat} (hN : N ≤ 12) : ∀ (f k : Nat) (τ ρ : Nat → Nat → Int), k + f = N → k_exB f (k : Int) τ → k_P1 (ρ 124) τ → ρ 123 8 = 0 → ρ 123 9 = τ 23 4 → k_Cm N τ ρ → k_exOK f (k : Int) τ ∧ ((∃ τ' ρ', k_for (b_execute_51 R) f k ρ = .inr ρ' ∧ g_ex f (k : Int) τ = (.inl (some (.int (iI (N : Int)))), u_keepB τ' 107) ∧ k_P1 (ρ' 124) τ' ∧ k_OK τ' ∧ ρ' 123 8 = 0 ∧ ρ' 123 9 = τ' 23 4 ∧ k_Fr ρ' ρ ∧ ∀ i, i = 0 ∨ 24 ≤ i → τ' i = τ i) ∨ ∃ (j : Nat) (e : Int) (τ' ρ' : Nat → Nat → Int), j < N ∧ (1 ≤ e ∧ e ≤ 4) ∧ k_for (b_execute_51 R) f k ρ = .inl (0, k_up (k_up ρ' 123 (k_u1 (k_u1 (k_u1 (ρ' 123) 11 (j : Int)) 12 e) 7 2)) 124 (ρ' 127)) ∧ g_ex f (k : Int) τ = (.inr x_is, u_fail τ' (j : Int) e) ∧ k_OK τ' ∧ ρ' 123 9 = τ' 23 4 ∧ k_Fr ρ' ρ ∧ ∀ i, i = 0 ∨ 24 ≤ i → τ' i = τ i)
  | 0, k, τ, ρ, hk, hB, hR, h8, h9, hC => by
    refine ⟨hB, Or.inl ⟨τ, ρ, rfl, ?_, hR, hB.1, h8, h9, k_Fr_rf, fun _ _ => rfl⟩⟩
    have e : τ 116 3 = (N : Int) := by
      have := hB.2.1
      omega
    show (Sum.inl (some (Value.int (iI (τ 116 3)))), u_keepB τ 107) = _
    rw [e]
  | f + 1, k, τ, ρ, hk, hB, hR, h8, h9, hC => by
    have hBB := hB
    obtain ⟨hOK, hcnt, h120, h119⟩ := hB
    have hm := f_cm_r (τ := τ) (k := (k : Int)) h119 ⟨by omega, by omega⟩
    have cc := hC k (by omega) ρ
    have hpl : k_PlEq (u_cmdF τ (k : Int)) τ := u_fault_pl _ _ _ _
    have hKF : k_OK (u_cmdF τ (k : Int)) := k_OK_fault hOK _ _ _ _
    have hq := q_op hR hOK h8 (a := f_ca τ (k : Int)) (b := f_cb τ (k : Int)) (c := f_cc τ (k : Int)) hm
    have hq2 := q_op (k_P1_pl hpl hR) hKF h8 (a := f_ca τ (k : Int)) (b := f_cb τ (k : Int)) (c := f_cc τ (k : Int)) hm
    have h9' := q_nine hR hOK h8 h9 (a := f_ca τ (k : Int)) (b := f_cb τ (k : Int)) (c := f_cc τ (k : Int)) hm
    have hfr := m_acts_fr (σ := ρ) (f_cm τ (k : Int)) (f_ca τ (k : Int)) (f_cb τ (k : Int)) (f_cc τ (k : Int))
    have he := k_op_e h8 hq
    have hef : e_fault (u_cmdF τ (k : Int)) (f_cm τ (k : Int)) (f_ca τ (k : Int)) (f_cb τ (k : Int)) (f_cc τ (k : Int)) = e_cmd τ (k : Int) := hpl.fault _ _ _ _
    have hu : ∀ i, i = 0 ∨ 24 ≤ i → u_cmdF τ (k : Int) i = τ i := fun i hi => by
      rcases hi with rfl | hi
      · exact hpl 0 (by decide)
      · exact u_fault_ne _ _ _ _ (by omega)
    have hb : b_execute_51 R k ρ = if (m_acts ρ (f_cm τ (k : Int)) (f_ca τ (k : Int)) (f_cb τ (k : Int)) (f_cc τ (k : Int))).2 123 8 = 0 then .inr (m_acts ρ (f_cm τ (k : Int)) (f_ca τ (k : Int)) (f_cb τ (k : Int)) (f_cc τ (k : Int))).2 else .inl (0, k_up (k_up (m_acts ρ (f_cm τ (k : Int)) (f_ca τ (k : Int)) (f_cb τ (k : Int)) (f_cc τ (k : Int))).2 123 (k_u1 (k_u1 (k_u1 ((m_acts ρ (f_cm τ (k : Int)) (f_ca τ (k : Int)) (f_cb τ (k : Int)) (f_cc τ (k : Int))).2 123) 11 (k : Int)) 12 ((m_acts ρ (f_cm τ (k : Int)) (f_ca τ (k : Int)) (f_cb τ (k : Int)) (f_cc τ (k : Int))).2 123 8)) 7 2)) 124 ((m_acts ρ (f_cm τ (k : Int)) (f_ca τ (k : Int)) (f_cb τ (k : Int)) (f_cc τ (k : Int))).2 127)) := by
      unfold b_execute_51
      rw [Int.toNat_natCast, show (3 * (k : Int)).toNat = 3 * k by omega, show (3 * (k : Int) + 1).toNat = 3 * k + 1 by omega, show (3 * (k : Int) + 2).toNat = 3 * k + 2 by omega, cc]
    have efor : k_for (b_execute_51 R) (f + 1) k ρ = k_cn2 (k_for (b_execute_51 R) f (k + 1)) (b_execute_51 R k ρ) := rfl
    have hrng := e_fault_r τ (f_cm τ (k : Int)) (f_ca τ (k : Int)) (f_cb τ (k : Int)) (f_cc τ (k : Int))
    rw [efor, hb]
    generalize m_acts ρ (f_cm τ (k : Int)) (f_ca τ (k : Int)) (f_cb τ (k : Int)) (f_cc τ (k : Int)) = A at hq hq2 h9' hfr he ⊢
    have hch : e_cmd τ (k : Int) = 0 → k_chg2 (u_cmdF τ (k : Int)) (f_cm τ (k : Int)) (f_ca τ (k : Int)) (f_cb τ (k : Int)) (f_cc τ (k : Int)) := fun h0 h10 => by
      have := hef.trans h0
      rw [h10] at this
      exact (q_o_change (k_P1_pl hpl hR) hKF.1 hKF.2.2.1 h8 (f_ca τ (k : Int)) (f_cb τ (k : Int)) (f_cc τ (k : Int))).2.2 this
    by_cases q : e_cmd τ (k : Int) = 0
    · have hA8 : A.2 123 8 = 0 := he.symm.trans q
      have hK1 : k_OK (u_cmd τ (k : Int)) := k_OK_perf hKF hm (hef.trans q) (hch q)
      have efar : ∀ i, i = 0 ∨ 23 ≤ i → u_cmd τ (k : Int) i = u_cmdF τ (k : Int) i := fun i hi => u_perf_far _ _ _ hm hi
      have efar2 : ∀ i, i = 0 ∨ 24 ≤ i → u_cmd τ (k : Int) i = τ i := fun i hi => (efar i (by omega)).trans (hu i hi)
      have hP1 : k_P1 (A.2 124) (u_cmd τ (k : Int)) := by
        rcases hq2.1 with ⟨g1, -⟩ | ⟨-, -, -, g4⟩
        · exact absurd (hef.trans q) g1
        · exact g4
      have hB1 : k_exB f ((k + 1 : Nat) : Int) (u_cmd τ (k : Int)) := by
        refine ⟨hK1, ?_, ?_, ?_⟩
        · rw [efar2 116 (by omega)]
          omega
        · rw [efar2 120 (by omega)]
          exact h120
        · rw [efar2 119 (by omega)]
          exact h119
      obtain ⟨x1, x2⟩ := q_exec R hN f (k + 1) (u_cmd τ (k : Int)) A.2 (by omega) hB1 hP1 hA8 (h9'.trans (by rw [efar 23 (by omega)]; rfl)) (k_Cm_cong hC (efar2 119 (by omega)) (efar2 120 (by omega)) (hfr.1 138 (by omega)) (hfr.1 139 (by omega)))
      have ek : ((k + 1 : Nat) : Int) = (k : Int) + 1 := by omega
      rw [ek] at x1 x2
      have eg : g_ex (f + 1) (k : Int) τ = g_ex f ((k : Int) + 1) (u_cmd τ (k : Int)) := by
        rw [g_ex]
        exact if_pos q
      rw [if_pos hA8, eg]
      refine ⟨⟨hBB, fun h0 => ⟨hch h0, x1⟩⟩, ?_⟩
      rcases x2 with ⟨τ', ρ', y1, y2, y3, y4, y5, y6, y7, y8⟩ | ⟨j, e, τ', ρ', y0, ye, y1, y2, y4, y6, y7, y8⟩
      · exact Or.inl ⟨τ', ρ', y1, y2, y3, y4, y5, y6, k_Fr_tr y7 hfr, fun i hi => (y8 i hi).trans (efar2 i hi)⟩
      · exact Or.inr ⟨j, e, τ', ρ', y0, ye, y1, y2, y4, y6, k_Fr_tr y7 hfr, fun i hi => (y8 i hi).trans (efar2 i hi)⟩
    · have hA8 : A.2 123 8 = e_cmd τ (k : Int) := he.symm
      have eg : g_ex (f + 1) (k : Int) τ = (.inr x_is, u_fail (u_cmdF τ (k : Int)) (k : Int) (e_cmd τ (k : Int))) := by
        rw [g_ex]
        exact if_neg q
      rw [if_neg (by rw [hA8]; exact q), eg]
      refine ⟨⟨hBB, fun h0 => absurd h0 q⟩, Or.inr ⟨k, e_cmd τ (k : Int), u_cmdF τ (k : Int), A.2, by omega, ?_, ?_, rfl, hKF, h9', hfr, hu⟩⟩
      · have : e_cmd τ (k : Int) = e_fault τ (f_cm τ (k : Int)) (f_ca τ (k : Int)) (f_cb τ (k : Int)) (f_cc τ (k : Int)) := rfl
        omega
      · rw [hA8]
        rfl
end K_R35
