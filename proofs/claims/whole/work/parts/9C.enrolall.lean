/-! ===== enrolAll, alike ===== -/
section K_R45
variable {σ ρ τ : Nat → Nat → Int} {r : Nat → Int}
theorem q_ea (hRel : k_Rel σ ρ) (hOK : k_OK σ) : ∀ n : Nat, (n : Int) ≤ σ 1 2 → k_P1 ((k_fold n (b_enrolAll_8 ρ) (0, g_begin ρ)).2 124) (g_ea σ n).1 ∧ (k_fold n (b_enrolAll_8 ρ) (0, g_begin ρ)).1 = (g_ea σ n).2 ∧ k_Fr (k_fold n (b_enrolAll_8 ρ) (0, g_begin ρ)).2 (g_begin ρ) ∧ (k_fold n (b_enrolAll_8 ρ) (0, g_begin ρ)).2 123 8 = 0 ∧ (k_fold n (b_enrolAll_8 ρ) (0, g_begin ρ)).2 123 9 = ρ 123 9 ∧ ∀ i, i ≠ 4 → i ≠ 10 → i ≠ 11 → i ≠ 12 → i ≠ 13 → (g_ea σ n).1 i = u_kep σ i
  | 0, _ => by
    have hn := hOK.2.2.2.2.2.1
    refine ⟨?_, rfl, k_Fr_rf, ?_, ?_, fun _ _ _ _ _ _ => rfl⟩
    · show k_P1 (g_begin ρ 124) (u_kep σ)
      rw [g_begin_ne (by decide) (by decide)]
      exact k_P1_pl (k_kep_pl hOK.2.2.2.2) hRel.1
    · show g_begin ρ 123 8 = 0
      rw [g_begin_123]
      exact if_pos rfl
    · show g_begin ρ 123 9 = ρ 123 9
      rw [g_begin_123]
      exact if_neg (by decide)
  | n + 1, h => by
    obtain ⟨h1, h2, h3, h4, h5, h6⟩ := q_ea hRel hOK n (by omega)
    have hc := hOK.1.2.2.1.2
    obtain ⟨o1, o2, o3, -⟩ := g_ea_ok hOK.1 hOK.2.1 hOK.2.2.2.2 n (by omega)
    have e : k_fold (n + 1) (b_enrolAll_8 ρ) (0, g_begin ρ) = b_enrolAll_8 ρ n (k_fold n (b_enrolAll_8 ρ) (0, g_begin ρ)) := rfl
    rw [e, g_ea_s]
    generalize g_ea σ n = T at h1 h2 h6 o1 o2 o3 ⊢
    generalize k_fold n (b_enrolAll_8 ρ) (0, g_begin ρ) = X at h1 h2 h3 h4 h5 ⊢
    clear e
    have hp : 0 ≤ (n : Int) ∧ (n : Int) < T.1 1 2 := by rw [o3]; omega
    have hm := (h1.2.2.1.1 (n : Int) hp.1 hp.2).1
    have hl := q_lessons h1 o1 hp
    have h05 := o1.2.2.2.2.2.2.1 (n : Int).toNat
    have he : e_enrol T.1 (n : Int) = if 0 < m_classesOf (X.2 124) (n : Int) ∨ T.1 5 (n : Int).toNat ≤ 0 then 3 else 0 := by
      unfold e_enrol
      rw [if_pos hp, hl]
    unfold b_enrolAll_8
    rw [hm]
    by_cases a : T.1 5 (n : Int).toNat = 0
    · rw [if_pos a, if_neg (show ¬ e_enrol T.1 (n : Int) = 0 by rw [he, if_pos (Or.inr (by omega))]; decide)]
      exact ⟨h1, h2, h3, h4, h5, h6⟩
    · rw [if_neg a]
      by_cases b : m_classesOf (X.2 124) (n : Int) ≤ 0
      · have he0 : e_enrol T.1 (n : Int) = 0 := by rw [he, if_neg (by omega)]
        have hop := q_o_enrol h1 o1 (n : Int)
        rw [he0] at hop
        obtain ⟨hop1, hop2⟩ := hop
        rcases hop1 with ⟨g1, -⟩ | ⟨-, -, g2, g3⟩
        · exact absurd rfl g1
        · have hty := u_give_ty o1 (p := (n : Int)) (by omega)
          have hpl : u_give T.1 (n : Int) 1 = T.1 1 := u_give_far _ (by decide)
          have hat := q_attends g3 hty (p := (n : Int)) (by rw [hpl]; exact hp)
          have hF := k_Fr_tr (m_enrolNow_fr (σ := X.2) (n : Int)) h3
          have h9 := hop2 (by decide)
          rw [if_pos b, if_pos he0]
          generalize m_enrolNow X.2 (n : Int) = y at g2 g3 hat hF h9 ⊢
          have hfar : ∀ i, i ≠ 4 → i ≠ 10 → i ≠ 11 → i ≠ 12 → i ≠ 13 → u_give T.1 (n : Int) i = u_kep σ i := fun i a1 a2 a3 a4 a5 => (u_give_far _ ⟨a1, a2, a3, a4, a5⟩).trans (h6 i a1 a2 a3 a4 a5)
          by_cases s : m_isServed (y.2 124) (n : Int) = true
          · rw [if_pos s, zb_t (hat.mpr s)]
            exact ⟨g3, congrArg (· + 1) h2, hF, g2.trans h4, h9.trans h5, hfar⟩
          · rw [if_neg s, zb_f (fun z => s (hat.mp z))]
            exact ⟨g3, congrArg (· + 0) h2, hF, g2.trans h4, h9.trans h5, hfar⟩
      · rw [if_neg b, if_neg (show ¬ e_enrol T.1 (n : Int) = 0 by rw [he, if_pos (Or.inl (by omega))]; decide)]
        exact ⟨h1, h2, h3, h4, h5, h6⟩
theorem q_m_enrolAll (hRel : k_Rel σ ρ) (hOK : k_OK σ) : k_Rel (g_ea σ (σ 1 2).toNat).1 (m_enrolAll ρ).2 ∧ (m_enrolAll ρ).1 = (g_ea σ (σ 1 2).toNat).2 ∧ k_Fr (k_fold (σ 1 2).toNat (b_enrolAll_8 ρ) (0, g_begin ρ)).2 (g_begin ρ) ∧ m_enrolAll ρ = m_ends (k_fold (σ 1 2).toNat (b_enrolAll_8 ρ) (0, g_begin ρ)).2 (k_fold (σ 1 2).toNat (b_enrolAll_8 ρ) (0, g_begin ρ)).1 0 0 ∧ ∀ i, i ≠ 4 → i ≠ 10 → i ≠ 11 → i ≠ 12 → i ≠ 13 → (g_ea σ (σ 1 2).toNat).1 i = u_kep σ i := by
  have h12 := hOK.1.2.2.1
  have hn := hOK.2.2.2.2.2.1
  obtain ⟨h1, h2, h3, h4, h5, h6⟩ := q_ea hRel hOK (σ 1 2).toNat (by omega)
  have em : m_enrolAll ρ = m_ends (k_fold (σ 1 2).toNat (b_enrolAll_8 ρ) (0, g_begin ρ)).2 (k_fold (σ 1 2).toNat (b_enrolAll_8 ρ) (0, g_begin ρ)).1 0 0 := by
    unfold m_enrolAll
    rw [hRel.1.2.1.1.2.2, k_it_fold]
    rfl
  rw [em]
  generalize k_fold (σ 1 2).toNat (b_enrolAll_8 ρ) (0, g_begin ρ) = X at h1 h2 h3 h4 h5 ⊢
  generalize g_ea σ (σ 1 2).toNat = T at h1 h2 h6 ⊢
  have hq := q_end hRel hOK (e := 0) (v := T.2) (υ := T.1) (υe := T.1) h3 h4 (fun y => absurd rfl y) (fun _ => ⟨h2, h1, fun i a b => h6 i (by omega) (by omega) (by omega) (by omega) (by omega), fun i a b => (h6 i (by omega) (by omega) (by omega) (by omega) (by omega)).trans (u_keepB_ne hn (Or.inr a)), (congrFun ((h6 0 (by decide) (by decide) (by decide) (by decide) (by decide)).trans (u_keepB_ne hn (Or.inl (by decide)))) 10), h5.trans (hRel.2.2.2.trans (congrFun ((h6 23 (by decide) (by decide) (by decide) (by decide) (by decide)).trans (u_keepB_ne hn (Or.inl (by decide)))) 4).symm)⟩) 0 0
  rw [if_pos rfl] at hq
  exact ⟨hq.1, (hq.2.1 rfl).1, h3, rfl, h6⟩
theorem k_OK_ea (hOK : k_OK σ) (h6 : ∀ i, i ≠ 4 → i ≠ 10 → i ≠ 11 → i ≠ 12 → i ≠ 13 → (g_ea σ (σ 1 2).toNat).1 i = u_kep σ i) : k_OK (g_ea σ (σ 1 2).toNat).1 := by
  have h12 := hOK.1.2.2.1
  obtain ⟨o1, o2, -⟩ := g_ea_ok hOK.1 hOK.2.1 hOK.2.2.2.2 (σ 1 2).toNat (by omega)
  obtain ⟨hI, hS, hC, hA, hH⟩ := k_OK_keep (B := 1) hOK
  exact ⟨o1, o2, k_Ch_of hC (h6 _ (by decide) (by decide) (by decide) (by decide) (by decide)) (h6 _ (by decide) (by decide) (by decide) (by decide) (by decide)) (h6 _ (by decide) (by decide) (by decide) (by decide) (by decide)), k_Ar_of hA (h6 _ (by decide) (by decide) (by decide) (by decide) (by decide)) (h6 _ (by decide) (by decide) (by decide) (by decide) (by decide)) (h6 _ (by decide) (by decide) (by decide) (by decide) (by decide)) (h6 _ (by decide) (by decide) (by decide) (by decide) (by decide)), k_Hi_of hH (h6 _ (by decide) (by decide) (by decide) (by decide) (by decide)) (h6 _ (by decide) (by decide) (by decide) (by decide) (by decide))⟩
end K_R45
