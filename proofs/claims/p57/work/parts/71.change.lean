/-! ===== CHANGING alike ===== -/
section K_R15
variable {σ ρ τ : Nat → Nat → Int} {r : Nat → Int}
theorem k_op_e {e v : Int} {y : Int × (Nat → Nat → Int)} (h8 : ρ 123 8 = 0) (h : k_op e v τ ρ y) : e = y.2 123 8 := by
  rcases h.1 with h | h
  · exact h.2.2.1.symm
  · rw [h.2.2.1, h8]
    exact h.1
theorem q_o_change (hR : k_P1 (ρ 124) σ) (hI : k_Ty σ) (hC : k_Ch σ) (h8 : ρ 123 8 = 0) (p a s : Int) : k_op (e_change σ p a s) (f_few (u_quit σ p a) s (f_free (u_quit σ p a) p)) (u_car (u_quit σ p a) p s) ρ (m_changeNow ρ p a s) ∧ ((m_changeNow ρ p a s).2 123 9 = if e_change σ p a s = 4 then f_reason σ s (f_freeQ σ p a) else ρ 123 9) ∧ (e_change σ p a s = 0 → f_few (u_quit σ p a) s (f_free (u_quit σ p a) p) ≠ -1) := by
  unfold e_change e_chg m_changeNow
  have hn : ρ 124 0 = σ 1 0 := hR.2.1.1.1
  have hm : ρ 124 2 = σ 1 2 := hR.2.1.1.2.2
  have hS := hI.1
  have hP := hI.2.2.1
  have no : ∀ e : Int, e ≠ 0 → e ≠ 4 → k_op e (f_few (u_quit σ p a) s (f_free (u_quit σ p a) p)) (u_car (u_quit σ p a) p s) ρ (0, k_up ρ 123 (k_u1 (ρ 123) 8 e)) ∧ ((0, k_up ρ 123 (k_u1 (ρ 123) 8 e)).2 123 9 = if e = 4 then f_reason σ s (f_freeQ σ p a) else ρ 123 9) ∧ (e = 0 → f_few (u_quit σ p a) s (f_free (u_quit σ p a) p) ≠ -1) := fun e h0 h4 => by
    refine ⟨k_op_no h0, ?_, fun z => absurd z h0⟩
    rw [if_neg h4]
    dsimp only
    rw [k_up_same]
    exact if_neg (by decide)
  rw [hn, hm]
  by_cases h : 0 ≤ p ∧ p < σ 1 2
  · rw [if_pos h]
    by_cases h2 : 0 ≤ a ∧ a < σ 1 0
    · rw [if_pos h2]
      by_cases h3 : 0 ≤ s ∧ s < σ 1 0
      · rw [if_pos (show (_ ∧ _) ∧ _ from ⟨⟨h, h2⟩, h3⟩), if_pos h3, ← q_taken hR hI h (s := a) ⟨h2.1, by omega⟩, ← q_taken hR hI h (s := s) ⟨h3.1, by omega⟩]
        by_cases q : f_taken σ p a = -1
        · rw [if_pos (show _ ∨ _ from Or.inl q), if_pos q, if_neg (show ¬ (3 : Int) = 0 by decide)]
          exact no 3 (by decide) (by decide)
        · rw [if_neg q]
          by_cases q2 : f_taken σ p s = -1
          · rw [if_neg (show ¬ (_ ∨ _) from fun y => y.elim q fun z => z q2), if_pos rfl, if_pos q2]
            have ht := q_taken hR hI h (s := a) ⟨h2.1, by omega⟩
            have hta := (z_blockOf (ρ 124) p a).resolve_left fun y => q (ht.trans y.1)
            rw [← ht] at hta
            have hns := ((z_blockOf (ρ 124) p s).resolve_right fun y => by
              rw [q_taken hR hI h (s := s) ⟨h3.1, by omega⟩] at q2
              omega).2
            have hB := (q_tabS hR hI h hta.1 (by omega)).2
            have hR1 : k_P1 (k_up ρ 124 (k_u1 (ρ 124) ((105 + (4 * p)) + f_taken σ p a).toNat (-1)) 124) (u_quit σ p a) := by
              rw [k_up_same]
              exact q_leave hR hI h h2 ⟨hta.1.1, hB⟩ hta.2
            have hI1 : k_Ty (u_quit σ p a) := u_leave_ty hI
            have hC1 : k_Ch (u_quit σ p a) := u_leave_ch hC
            have e1 : u_quit σ p a 1 = σ 1 := u_leave_ne (by decide)
            have hp1 : 0 ≤ p ∧ p < u_quit σ p a 1 2 := by rw [e1]; exact h
            have hs1 : 0 ≤ s ∧ s < u_quit σ p a 1 0 := by rw [e1]; exact h3
            have hj := q_o_join hR1 hI1 hC1 p s
            have hlk1 := q_lk hR1 hI1 hp1 hs1
            have hlkQ : k_lk (k_up ρ 124 (k_u1 (ρ 124) ((105 + (4 * p)) + f_taken σ p a).toNat (-1)) 124) σ p s (f_freeQ σ p a) := by
              rw [k_up_same]
              exact q_lkQ hR hI h h2 h3 rfl q q2
            have hno1 : f_taken (u_quit σ p a) p s = -1 := by
              rw [q_taken hR1 hI1 hp1 (s := s) ⟨h3.1, by omega⟩]
              refine ((z_blockOf _ p s).resolve_right fun y => ?_).1
              rw [k_up_same] at y
              obtain ⟨y1, y2⟩ := y
              generalize m_blockOfSubject (k_u1 (ρ 124) ((105 + (4 * p)) + f_taken σ p a).toNat (-1)) p s = c at y1 y2
              unfold k_u1 at y2
              split at y2
              · omega
              · exact hns c y1.1 y1.2 y2
            have hj0 : e_joiner (u_quit σ p a) p s = 0 := by
              unfold e_joiner
              rw [if_pos ⟨hp1, hs1⟩, if_pos hno1]
            unfold e_join at hj
            rw [hj0, if_pos rfl] at hj
            have hw1 := q_why hI1 hR1.1 ⟨h3.1, by omega⟩ hlk1
            have hw2 := q_why hI hR1.1 ⟨h3.1, by omega⟩ hlkQ
            have hk1 := q_seek hI1 hlk1
            have hkQ := q_seek hI hlkQ
            have hfr : (k_up ρ 124 (k_u1 (ρ 124) ((105 + (4 * p)) + f_taken σ p a).toNat (-1))) 123 = ρ 123 := k_up_ne (by decide)
            have h124 : (k_up ρ 124 (k_u1 (ρ 124) ((105 + (4 * p)) + f_taken σ p a).toNat (-1))) 124 = k_u1 (ρ 124) ((105 + (4 * p)) + f_taken σ p a).toNat (-1) := k_up_same
            generalize k_up ρ 124 (k_u1 (ρ 124) ((105 + (4 * p)) + f_taken σ p a).toNat (-1)) = ρ1 at hj hk1 hkQ hw1 hw2 hfr h124 ⊢
            unfold e_seek at hj ⊢
            have same : f_few σ s (f_freeQ σ p a) = -1 ↔ f_few (u_quit σ p a) s (f_free (u_quit σ p a) p) = -1 := by
              rcases hk1 with ⟨k1, k2⟩ | ⟨e, m, he, hm, k1, k2, k3, y, k4, k5⟩
              · rcases hkQ with ⟨l1, l2⟩ | ⟨e', m', he', hm', l1, l2, l3, y', l4, l5⟩
                · exact ⟨fun _ => k1, fun _ => l1⟩
                · rw [l5] at k2
                  have : (m' : Int) = -1 := k2
                  omega
              · rcases hkQ with ⟨l1, l2⟩ | ⟨e', m', he', hm', l1, l2, l3, y', l4, l5⟩
                · rw [k5] at l2
                  have : (m : Int) = -1 := l2
                  omega
                · omega
            obtain ⟨⟨j1, -⟩, j2⟩ := hj
            by_cases w : f_few (u_quit σ p a) s (f_free (u_quit σ p a) p) = -1
            · rw [if_pos (same.mpr w)]
              rw [if_pos w] at j1 j2
              rcases j1 with ⟨g1, g2, g3, g4⟩ | ⟨g1, -⟩
              · rw [if_neg (by rw [g3]; decide)]
                refine ⟨⟨Or.inl ⟨by decide, g2, ?_, ?_⟩, fun z => absurd rfl z⟩, ?_, fun z => (by cases z)⟩
                · dsimp only
                  rw [k_up_ne (by decide)]
                  exact g3
                · dsimp only
                  rw [k_up_same, g4, h124]
                  funext i
                  unfold k_u1
                  by_cases e : i = ((105 + (4 * p)) + f_taken σ p a).toNat
                  · rw [if_pos e, e]
                    exact hta.2.symm
                  · rw [if_neg e, if_neg e]
                · dsimp only
                  rw [k_up_ne (by decide), j2, if_pos rfl, if_pos rfl, hw1, hw2]
              · cases g1
            · rw [if_neg fun y => w (same.mp y)]
              rw [if_neg w] at j1 j2
              rcases j1 with ⟨g1, -⟩ | ⟨g1, g2, g3, g4⟩
              · exact absurd rfl g1
              · rw [if_pos (by rw [g3, hfr]; exact h8)]
                refine ⟨⟨Or.inr ⟨rfl, g2, ?_, g4⟩, fun _ => ?_⟩, ?_, fun _ => w⟩
                · dsimp only
                  rw [g3, hfr]
                · dsimp only
                  rw [j2, if_neg (by decide), hfr]
                · dsimp only
                  rw [j2, if_neg (by decide), if_neg (by decide), hfr]
          · rw [if_pos (show _ ∨ _ from Or.inr q2), if_neg q2, if_neg (show ¬ (3 : Int) = 0 by decide)]
            exact no 3 (by decide) (by decide)
      · rw [if_neg (show ¬ ((_ ∧ _) ∧ _) from fun y => h3 y.2), if_neg h3, if_neg (show ¬ (1 : Int) = 0 by decide)]
        exact no 1 (by decide) (by decide)
    · rw [if_neg (show ¬ ((_ ∧ _) ∧ _) from fun y => h2 y.1.2), if_neg h2, if_neg (show ¬ (1 : Int) = 0 by decide)]
      exact no 1 (by decide) (by decide)
  · rw [if_neg h, if_neg (show ¬ ((_ ∧ _) ∧ _) from fun y => h y.1.1), if_neg (show ¬ (1 : Int) = 0 by decide)]
    exact no 1 (by decide) (by decide)
end K_R15
