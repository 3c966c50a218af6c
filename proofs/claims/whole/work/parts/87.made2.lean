/-! ===== A WHOLE CHANGE by its number ===== -/
section K_R31
variable {σ ρ τ : Nat → Nat → Int} {r : Nat → Int}
theorem u_few_far {s : Int} {i : Nat} (h : i < 15 ∨ 18 ≤ i) : u_few σ s i = σ i := by
  unfold u_few u_fewN u_lookN
  rw [k_up_ne (by omega), k_up_ne (by omega), k_up_ne (by omega), k_up_ne (by omega)]
theorem u_car_far {p s : Int} {i : Nat} (h : i = 0 ∨ 18 ≤ i) : u_car σ p s i = σ i := by
  unfold u_car u_carE
  rw [u_enter_ne (by omega)]
  unfold u_moves u_movesN
  refine (k_fold_inv (P := fun τ : Nat → Nat → Int => τ i = u_few σ s i) ?_ (fun k τ hτ => (u_enter_ne (by omega)).trans ((u_leave_ne (by omega)).trans hτ)) _).trans (u_few_far (by omega))
  rw [k_up_ne (by omega)]
  unfold u_carN
  rw [k_up_ne (by omega), k_up_ne (by omega)]
theorem u_arr_far {i : Nat} (h : i = 0 ∨ 23 ≤ i) : u_arr σ i = σ i := by
  unfold u_arr u_arrN
  rw [k_up_ne (by omega)]
  unfold u_abest g_putA u_comm
  rw [k_up_ne (by omega), k_up_ne (by omega), k_up_ne (by omega), k_up_ne (by omega), k_up_ne (by omega)]
theorem u_perf_far {m : Int} (a b c : Int) (hm : 0 ≤ m ∧ m < 12) {i : Nat} (h : i = 0 ∨ 23 ≤ i) : u_perf σ m a b c i = σ i := by
  have : m = 0 ∨ m = 1 ∨ m = 2 ∨ m = 3 ∨ m = 4 ∨ m = 5 ∨ m = 6 ∨ m = 7 ∨ m = 8 ∨ m = 9 ∨ m = 10 ∨ m = 11 := by omega
  rcases this with rfl | rfl | rfl | rfl | rfl | rfl | rfl | rfl | rfl | rfl | rfl | rfl
  · show u_newSubject σ a i = σ i
    unfold u_newSubject
    rw [k_up_ne (by omega), k_up_ne (by omega)]
  · show k_up σ 1 _ i = σ i
    exact k_up_ne (by omega)
  · show k_up σ 3 _ i = σ i
    exact k_up_ne (by omega)
  · show k_up σ 3 _ i = σ i
    exact k_up_ne (by omega)
  · show u_newPupil σ i = σ i
    unfold u_newPupil
    rw [k_up_ne (by omega), k_up_ne (by omega)]
  · show u_newWish σ a b i = σ i
    unfold u_newWish
    rw [k_up_ne (by omega), k_up_ne (by omega)]
  · show k_up σ 7 _ i = σ i
    exact k_up_ne (by omega)
  · show u_give σ a i = σ i
    exact u_give_far _ (by omega)
  · show u_car σ a b i = σ i
    exact u_car_far (by omega)
  · show u_quit σ a b i = σ i
    exact u_leave_ne (by omega)
  · show u_car (u_quit σ a b) a c i = σ i
    exact (u_car_far (by omega)).trans (u_leave_ne (by omega))
  · show u_arr σ i = σ i
    exact u_arr_far h
theorem u_keepB_cong {i : Nat} (h1 : ∀ j, j < 10 → τ j = σ j) (h2 : ∀ j, 24 ≤ j → j < 98 → τ j = σ j) (hn : 0 ≤ σ 24 1 ∧ σ 24 1 < 8) (hi : 24 ≤ i ∧ i < 98) : u_keepB τ 1 i = u_keepB σ 1 i := by
  have e24 := h2 24 (by decide) (by decide)
  unfold u_keepB
  rw [e24]
  by_cases q : i = 24
  · subst q
    rw [k_up_same, k_up_same]
  · rw [k_up_ne q, k_up_ne q]
    unfold u_copy
    by_cases w : i = 26 + 9 * (σ 24 1).toNat
    · rw [if_pos w, if_pos w, h1 1 (by decide), h2 (26 + 9 * (σ 24 1).toNat) (by omega) (by omega)]
    · rw [if_neg w, if_neg w]
      by_cases v : 26 + 9 * (σ 24 1).toNat < i ∧ i < 26 + 9 * (σ 24 1).toNat + 9
      · rw [if_pos v, if_pos v, h1 _ (by omega)]
      · rw [if_neg v, if_neg v, h2 i hi.1 hi.2]
theorem q_made (hRel : k_Rel σ ρ) (hOK : k_OK σ) {m a b c : Int} (hm : 0 ≤ m ∧ m < 12) (x y : Int) : (e_fault σ m a b c = 0 → k_chg σ m a b c) ∧ k_Rel (u_make σ m a b c) (m_ends (m_acts (g_begin ρ) m a b c).2 (m_acts (g_begin ρ) m a b c).1 x y).2 ∧ (e_fault σ m a b c = 0 → (m_ends (m_acts (g_begin ρ) m a b c).2 (m_acts (g_begin ρ) m a b c).1 x y).1 = f_perf (u_kept σ m a b c) m a b c ∧ (m_ends (m_acts (g_begin ρ) m a b c).2 (m_acts (g_begin ρ) m a b c).1 x y).2 123 7 = 0) ∧ (e_fault σ m a b c ≠ 0 → (m_ends (m_acts (g_begin ρ) m a b c).2 (m_acts (g_begin ρ) m a b c).1 x y).2 123 7 = if e_fault σ m a b c = x then 1 else if e_fault σ m a b c = y then 2 else 3) := by
  have hRel' := hRel
  obtain ⟨hR, hH, hV, h9⟩ := hRel
  have b124 : g_begin ρ 124 = ρ 124 := g_begin_ne (by decide) (by decide)
  have hR1 : k_P1 (g_begin ρ 124) σ := by rw [b124]; exact hR
  have h81 : g_begin ρ 123 8 = 0 := by rw [g_begin_123]; exact if_pos rfl
  have h91 : g_begin ρ 123 9 = σ 23 4 := by rw [g_begin_123]; exact (if_neg (by decide)).trans h9
  obtain ⟨k1, k2⟩ := q_make hR1 hOK h81 (a := a) (b := b) (c := c) hm
  have k9 := q_nine hR1 hOK h81 h91 (a := a) (b := b) (c := c) hm
  have hn := hOK.2.2.2.2.2.1
  have hnf := (k_OK_fault hOK m a b c).2.2.2.2.2.1
  have hu : ∀ i, (i = 0 ∨ 24 ≤ i) → u_fault σ m a b c i = σ i := fun i hi => by
    rcases hi with rfl | hi
    · exact u_fault_pl m a b c 0 (by decide)
    · exact u_fault_ne m a b c (by omega)
  have hq := q_end (υ := u_make σ m a b c) (υe := u_fault σ m a b c) (v := f_perf (u_kept σ m a b c) m a b c) hRel' hOK (m_acts_fr (σ := g_begin ρ) m a b c) k1 (fun h0 => by
    rcases k2 with ⟨-, g2, g3⟩ | ⟨g1, -⟩
    · exact ⟨g2, g3.trans b124, u_fault_pl m a b c, fun i h1 _ => hu i (Or.inr h1), congrFun (hu 0 (Or.inl rfl)) 10, k9⟩
    · exact absurd g1 h0) (fun h0 => by
    rcases k2 with ⟨g1, -⟩ | ⟨-, g2, -, g4⟩
    · exact absurd h0 g1
    · have eu : ∀ i, (i = 0 ∨ 23 ≤ i) → u_make σ m a b c i = u_kept σ m a b c i := fun i hi => by
        unfold u_make
        rw [if_pos h0]
        exact u_perf_far a b c hm hi
      refine ⟨g2, g4, fun i h1 h2 => ?_, fun i h1 h2 => ?_, ?_, ?_⟩
      · rw [eu i (by omega)]
        exact u_keepB_cong (fun j hj => u_fault_pl m a b c j hj) (fun j h1 _ => hu j (Or.inr h1)) hn ⟨h1, h2⟩
      · rw [eu i (by omega)]
        exact (u_keepB_ne hnf (Or.inr h1)).trans (hu i (Or.inr (by omega)))
      · rw [eu 0 (by omega)]
        exact congrFun ((u_keepB_ne hnf (Or.inl (by decide))).trans (hu 0 (Or.inl rfl))) 10
      · rw [eu 23 (by omega), k9]
        exact (congrFun (u_keepB_ne hnf (Or.inl (by decide))) 4).symm) x y
  refine ⟨fun h0 => ?_, ?_, hq.2.1, fun h0 => (hq.2.2 h0).2⟩
  · rcases k2 with ⟨g1, -⟩ | ⟨-, -, g3, -⟩
    · exact absurd h0 g1
    · exact g3
  · have h := hq.1
    by_cases q : e_fault σ m a b c = 0
    · rw [if_pos q] at h
      exact h
    · rw [if_neg q] at h
      unfold u_make
      rw [if_neg q]
      exact h
/-- what is told outside -/
theorem q_told (hRel : k_Rel σ ρ) (hOK : k_OK σ) {m a b c : Int} (hm : 0 ≤ m ∧ m < 12) {x y : Int} {tbl : List String} (hT : ∀ e : Int, e = e_fault σ m a b c → e ≠ 0 → x_of e ∈ tbl ∧ w_code tbl (.inr (x_of e)) = if e = x then 1 else if e = y then 2 else 3) (hv : -1 ≤ (m_ends (m_acts (g_begin ρ) m a b c).2 (m_acts (g_begin ρ) m a b c).1 x y).1 ∧ (m_ends (m_acts (g_begin ρ) m a b c).2 (m_acts (g_begin ρ) m a b c).1 x y).1 ≤ 1000) : k_ag tbl (r_make σ m a b c) (m_ends (m_acts (g_begin ρ) m a b c).2 (m_acts (g_begin ρ) m a b c).1 x y).1 ((m_ends (m_acts (g_begin ρ) m a b c).2 (m_acts (g_begin ρ) m a b c).1 x y).2 123 7) := by
  obtain ⟨-, -, h1, h2⟩ := q_made hRel hOK (a := a) (b := b) (c := c) hm x y
  unfold r_make
  by_cases q : e_fault σ m a b c = 0
  · obtain ⟨g1, g2⟩ := h1 q
    rw [if_pos q, g2]
    exact k_ag_v (by omega) g1.symm
  · obtain ⟨t1, t2⟩ := hT _ rfl q
    rw [if_neg q, h2 q]
    exact k_ag_x t1 t2.symm
end K_R31
