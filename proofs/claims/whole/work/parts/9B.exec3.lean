/-! ===== EXECUTING a program, alike: the whole ===== -/
section K_R44
variable {E : k_E} {sh : List k_Sh} {σ ρ τ : Nat → Nat → Int} {r t : Nat → Int} {v w : Nat}
/-- the numbers of the last failures -/
def k_Nm (σ ρ : Nat → Nat → Int) : Prop := ρ 123 10 = σ 0 11 ∧ ρ 123 11 = σ 0 12 ∧ (σ 0 12 = -1 ↔ σ 0 13 = 0) ∧ ρ 123 12 = σ 0 13
/-- a count of clashes that the arrangements keep -/
def k_A5 (σ : Nat → Nat → Int) : Prop := 0 ≤ σ 18 5 ∧ σ 18 5 ≤ 2147483647
theorem u_car_18 {p s : Int} : u_car σ p s 18 = σ 18 := u_car_far (Or.inr (by decide))
theorem k_A5_abest (hI : k_Ty σ) (hA : k_Ar σ) : k_A5 (u_abest σ) := by
  have h := (f_abest_ok hI hA).2.2.2
  have e : u_abest σ 18 5 = (f_abest σ).2.2.2 := by
    unfold u_abest g_putA
    rw [k_up_same]
    exact if_pos rfl
  unfold k_A5
  rw [e]
  exact h
theorem k_A5_atry (hI : k_Ty σ) (hA : k_Ar σ) (h5 : k_A5 σ) : k_A5 (u_atry σ) := by
  have h := (f_atry_ok hI hA h5).2.2.2.2
  have e : u_atry σ 18 5 = (f_atry σ).2.2.2.2 := by
    unfold u_atry g_putA
    rw [k_up_same]
    exact if_pos rfl
  unfold k_A5
  rw [e]
  exact h
theorem k_A5_of (h : k_A5 σ) (e : τ 18 = σ 18) : k_A5 τ := by
  unfold k_A5 at h ⊢
  rw [e]
  exact h
theorem k_A5_perf (hI : k_Ty σ) (hA : k_Ar σ) (h5 : k_A5 σ) {m a b c : Int} (hm : 0 ≤ m ∧ m < 12) : k_A5 (u_perf σ m a b c) := by
  have : m = 0 ∨ m = 1 ∨ m = 2 ∨ m = 3 ∨ m = 4 ∨ m = 5 ∨ m = 6 ∨ m = 7 ∨ m = 8 ∨ m = 9 ∨ m = 10 ∨ m = 11 := by omega
  rcases this with rfl | rfl | rfl | rfl | rfl | rfl | rfl | rfl | rfl | rfl | rfl | rfl
  · refine k_A5_of h5 ?_
    show u_newSubject σ a 18 = σ 18
    unfold u_newSubject
    rw [k_up_ne (by decide), k_up_ne (by decide)]
  · exact k_A5_of h5 (k_up_ne (by decide))
  · exact k_A5_of h5 (k_up_ne (by decide))
  · exact k_A5_of h5 (k_up_ne (by decide))
  · refine k_A5_of h5 ?_
    show u_newPupil σ 18 = σ 18
    unfold u_newPupil
    rw [k_up_ne (by decide), k_up_ne (by decide)]
  · refine k_A5_of h5 ?_
    show u_newWish σ a b 18 = σ 18
    unfold u_newWish
    rw [k_up_ne (by decide), k_up_ne (by decide)]
  · exact k_A5_of h5 (k_up_ne (by decide))
  · exact k_A5_of h5 (u_give_far _ (by decide))
  · exact k_A5_of h5 u_car_18
  · exact k_A5_of h5 (u_leave_ne (by decide))
  · exact k_A5_of h5 (u_car_18.trans (u_leave_ne (by decide)))
  · refine k_A5_of (k_A5_abest hI hA) ?_
    show u_arr σ 18 = u_abest σ 18
    unfold u_arr u_arrN
    exact k_up_ne (by decide)
theorem k_A5_fault (h5 : k_A5 σ) (m a b c : Int) : k_A5 (u_fault σ m a b c) := by
  have : ∀ i, i = 18 → u_fault σ m a b c i = σ i := fun i hi => u_fault_ne m a b c (by omega)
  exact k_A5_of h5 (this 18 rfl)
/-- the counts stay in range along a program -/
theorem g_ex_18 : ∀ (f : Nat) (k : Int) (τ : Nat → Nat → Int), 0 ≤ k → k + f ≤ 12 → k_exOK f k τ → k_A5 τ → k_A5 (g_ex f k τ).2
  | 0, k, τ, _, _, h, h5 => k_A5_of h5 (show u_keepB τ 107 18 = τ 18 from u_keepB_ne h.1.2.2.2.2.2.1 (Or.inl (by decide)))
  | f + 1, k, τ, hk0, hk, h, h5 => by
    obtain ⟨hB, h2⟩ := h
    have hm := f_cm_r (τ := τ) (k := k) hB.2.2.2 ⟨hk0, by omega⟩
    have h5F : k_A5 (u_cmdF τ k) := k_A5_fault h5 _ _ _ _
    have hKF : k_OK (u_cmdF τ k) := k_OK_fault hB.1 _ _ _ _
    rw [g_ex]
    by_cases q : e_cmd τ k = 0
    · rw [if_pos q]
      exact g_ex_18 f (k + 1) (u_cmd τ k) (by omega) (by omega) (h2 q).2 (k_A5_perf hKF.1 hKF.2.2.2.1 h5F hm)
    · rw [if_neg q]
      refine k_A5_of h5F ?_
      show u_fail (u_cmdF τ k) k (e_cmd τ k) 18 = _
      unfold u_fail
      rw [k_up_ne (by decide), k_up_ne (by decide)]
      exact u_copy_ne (Or.inr (by decide))
theorem u_set0_ne {a i : Nat} (h : i ≠ a) : u_set0 σ a i = σ i := k_up_ne h
theorem n_u1_ne {f : Nat → Int} {k j : Nat} {x : Int} (h : j ≠ k) : k_u1 f k x j = f j := if_neg h
theorem n_u1_eq {f : Nat → Int} {k : Nat} {x : Int} : k_u1 f k x k = x := if_pos rfl
theorem k_PA_of1 (hR : k_P1 r σ) (hI : k_Ty σ) : k_PA r σ 1 := k_PA_1.mpr ⟨hR, hI⟩
/-- what execute leaves of the class's world -/
def k_Xf (σ' σ : Nat → Nat → Int) : Prop := (∀ i, 118 ≤ i → i ≠ 119 → i ≠ 120 → σ' i = σ i) ∧ (∀ i, 98 ≤ i → i < 107 → σ' i = σ i) ∧ σ' 25 = σ 25 ∧ (∀ j, j < 11 → σ' 0 j = σ 0 j) ∧ σ' 117 3 = 0
/-- and of the model's -/
def k_Xm (ρ' ρ : Nat → Nat → Int) : Prop := (∀ i, i < 123 ∨ i = 129 ∨ i = 130 ∨ i = 137 ∨ 140 < i → ρ' i = ρ i) ∧ ρ' 123 16 = 0 ∧ ρ' 123 15 = ρ 123 15
theorem k_Rel_cong {σ' ρ' : Nat → Nat → Int} (h : k_Rel σ ρ) (hH : k_Hi σ) (e1 : ∀ i, 1 ≤ i → i < 10 → σ' i = σ i) (e2 : ∀ i, 23 ≤ i → i < 107 → σ' i = σ i) (e0 : σ' 0 10 = σ 0 10) (m5 : ρ' 123 5 = ρ 123 5) (m6 : ρ' 123 6 = ρ 123 6) (m9 : ρ' 123 9 = ρ 123 9) (r4 : ρ' 124 = ρ 124) (r6 : ρ' 126 = ρ 126) (r8 : ρ' 128 = ρ 128) : k_Rel σ' ρ' := by
  obtain ⟨h1, h2, h3, h4⟩ := h
  refine ⟨?_, k_Hs_cong h2 hH (fun i a b => e2 i (by omega) (by omega)) m5 r8, k_Sv_cong h3 (fun i a b => e2 i (by omega) b) e0 m6 r6, ?_⟩
  · rw [r4]
    unfold k_P1 at h1 ⊢
    rw [e1 1 (by decide) (by decide), e1 2 (by decide) (by decide), e1 3 (by decide) (by decide), e1 4 (by decide) (by decide), e1 5 (by decide) (by decide), e1 6 (by decide) (by decide), e1 7 (by decide) (by decide), e1 8 (by decide) (by decide), e1 9 (by decide) (by decide)]
    exact h1
  · rw [m9, e2 23 (by decide) (by decide)]
    exact h4
theorem q_execute (hOK : k_OK σ) (h5 : k_A5 σ) (hP : k_PJ sh σ v w) (hvv : 118 ≤ v) (hB : k_Bf v σ ρ) (hRel : k_Rel σ ρ) (hNm : k_Nm σ ρ) : k_exeOK σ v ∧ k_ag [x_ia, x_is] (g_exe σ v).1 (m_execute ρ).1 ((m_execute ρ).2 123 7) ∧ k_Rel (g_exe σ v).2 (m_execute ρ).2 ∧ k_OK (g_exe σ v).2 ∧ k_A5 (g_exe σ v).2 ∧ k_PJ sh (g_exe σ v).2 v w ∧ k_Nm (g_exe σ v).2 (m_execute ρ).2 ∧ k_Xf (g_exe σ v).2 σ ∧ k_Xm (m_execute ρ).2 ρ := by
  have h117 := hB.1.2
  have hvne := (k_PJ_un hP).2.2.2
  have hT : k_Tx v σ (k_up ρ 123 (k_u1 (k_u1 (ρ 123) 28 (ρ 123 16)) 16 0)) := by
    refine ⟨⟨?_, hvne.1, hvne.2.1, hvne.2.2.2⟩, fun j hj => ?_⟩
    · rw [k_up_same]
      exact ((n_u1_ne (by decide)).trans n_u1_eq).trans hB.1.1
    · rw [k_up_ne (by decide)]
      exact hB.2 j hj
  obtain ⟨g1, g2, g3, g4, g60⟩ := q_parse2 hP hT h117.2
  have gp := g_parse_pj hP
  have em : m_execute ρ = if (m_parses (k_up ρ 123 (k_u1 (k_u1 (ρ 123) 28 (ρ 123 16)) 16 0))).1 = -1 then k_els (r_execute_51 ρ) (k_for (b_execute_51 ρ) ((m_parses (k_up ρ 123 (k_u1 (k_u1 (ρ 123) 28 (ρ 123 16)) 16 0))).2 123 29).toNat 0 (k_up (k_up (k_up (m_parses (k_up ρ 123 (k_u1 (k_u1 (ρ 123) 28 (ρ 123 16)) 16 0))).2 123 (k_u1 ((m_parses (k_up ρ 123 (k_u1 (k_u1 (ρ 123) 28 (ρ 123 16)) 16 0))).2 123) 8 0)) 125 ((m_parses (k_up ρ 123 (k_u1 (k_u1 (ρ 123) 28 (ρ 123 16)) 16 0))).2 124)) 127 ((m_parses (k_up ρ 123 (k_u1 (k_u1 (ρ 123) 28 (ρ 123 16)) 16 0))).2 124))) else (0, k_up (m_parses (k_up ρ 123 (k_u1 (k_u1 (ρ 123) 28 (ρ 123 16)) 16 0))).2 123 (k_u1 (k_u1 ((m_parses (k_up ρ 123 (k_u1 (k_u1 (ρ 123) 28 (ρ 123 16)) 16 0))).2 123) 10 (m_parses (k_up ρ 123 (k_u1 (k_u1 (ρ 123) 28 (ρ 123 16)) 16 0))).1) 7 1)) := rfl
  have eg : g_exe σ v = if (g_parse v σ).2 = -1 then g_ex ((g_parse v σ).1 116 3).toNat 0 (u_copy (u_set0 (g_parse v σ).1 117) 107 1) else (.inr x_ia, k_up (u_set0 (g_parse v σ).1 117) 0 (k_u1 (u_set0 (g_parse v σ).1 117 0) 11 (g_parse v σ).2)) := rfl
  have ek : k_exeOK σ v = ((g_parse v σ).2 = -1 → k_exOK ((g_parse v σ).1 116 3).toNat 0 (u_copy (u_set0 (g_parse v σ).1 117) 107 1)) := rfl
  rw [em, eg, ek]
  clear em eg ek
  have b16 : (m_parses (k_up ρ 123 (k_u1 (k_u1 (ρ 123) 28 (ρ 123 16)) 16 0))).2 123 16 = 0 := (g4.2 16 (by decide) (by decide)).trans (by rw [k_up_same]; exact n_u1_eq)
  have b123 : ∀ j, j ≠ 16 → j ≠ 28 → j ≠ 29 → j ≠ 30 → (m_parses (k_up ρ 123 (k_u1 (k_u1 (ρ 123) 28 (ρ 123 16)) 16 0))).2 123 j = ρ 123 j := fun j a1 a2 a3 a4 => (g4.2 j a3 a4).trans (by rw [k_up_same]; exact (n_u1_ne a1).trans (n_u1_ne a2))
  have bne : ∀ i, i ≠ 123 → i ≠ 138 → i ≠ 139 → i ≠ 140 → (m_parses (k_up ρ 123 (k_u1 (k_u1 (ρ 123) 28 (ρ 123 16)) 16 0))).2 i = ρ i := fun i a1 a2 a3 a4 => (g4.1 i a1 a2 a3 a4).trans (k_up_ne a1)
  generalize m_parses (k_up ρ 123 (k_u1 (k_u1 (ρ 123) 28 (ρ 123 16)) 16 0)) = B at g1 g2 g4 b16 b123 bne ⊢
  clear g4 hT
  generalize g_parse v σ = G at g1 g2 g3 gp g60 ⊢
  -- the class's world after the reading
  have u_ne : ∀ i, i ≠ 116 → i ≠ 117 → i ≠ 119 → i ≠ 120 → u_set0 G.1 117 i = σ i := fun i a1 a2 a3 a4 => (u_set0_ne a2).trans (g3.1 i a1 a3 a4)
  have u_SB : k_SB sh (u_set0 G.1 117) 117 v w := k_SB_set0 gp.1.1
  have u_0 : u_set0 G.1 117 117 3 = 0 := u_set0_3 _ _
  have u_120 : ∀ j, 0 ≤ u_set0 G.1 117 120 j ∧ u_set0 G.1 117 120 j ≤ 99 := fun j => by
    rw [u_set0_ne (by decide)]
    exact gp.1.2.2.1 j
  have u_119 : ∀ j, 0 ≤ u_set0 G.1 117 119 j ∧ u_set0 G.1 117 119 j < 12 := fun j => by
    rw [u_set0_ne (by decide)]
    exact gp.1.2.2.2.1 j
  have u_116 : u_set0 G.1 117 116 = G.1 116 := u_set0_ne (by decide)
  have u_c119 : u_set0 G.1 117 119 = G.1 119 := u_set0_ne (by decide)
  have u_c120 : u_set0 G.1 117 120 = G.1 120 := u_set0_ne (by decide)
  generalize u_set0 G.1 117 = u1 at u_ne u_SB u_0 u_120 u_119 u_116 u_c119 u_c120 ⊢
  have hPJ : ∀ υ : Nat → Nat → Int, υ 117 = u1 117 → υ v = u1 v → υ 119 = u1 119 → υ 120 = u1 120 → k_PJ sh υ v w := fun υ a1 a2 a3 a4 => k_PJ_mk (k_SB_of u_SB a1 a2) (by rw [a4]; exact u_120) (by rw [a3]; exact u_119) hvne
  by_cases q : G.2 = -1
  · rw [if_pos q, if_pos (g1.symm.trans q)]
    obtain ⟨hCd, h29⟩ := g2 q
    have hN := gp.2.2
    rw [h29]
    -- both begin alike
    have s_ne : ∀ i, (i < 107 ∨ 116 ≤ i) → u_copy u1 107 1 i = u1 i := fun i hi => u_copy_ne (by omega)
    have s_lo : ∀ i, i < 107 → u_copy u1 107 1 i = σ i := fun i hi => (s_ne i (by omega)).trans (u_ne i (by omega) (by omega) (by omega) (by omega))
    have hOK0 : k_OK (u_copy u1 107 1) := k_OK_107 hOK s_lo
    have hPA : k_PA (ρ 124) (u_copy u1 107 1) 107 := u_copy_PA (k_PA_cong (k_PA_of1 hRel.1 hOK.1) fun i a b => u_ne i (by omega) (by omega) (by omega) (by omega))
    have hexB : k_exB (G.1 116 3).toNat ((0 : Nat) : Int) (u_copy u1 107 1) := by
      refine ⟨hOK0, ?_, ?_, ?_⟩
      · rw [s_ne 116 (by decide), u_116]
        omega
      · rw [s_ne 120 (by decide)]
        exact u_120
      · rw [s_ne 119 (by decide)]
        exact u_119
    have m124 : k_up (k_up (k_up B.2 123 (k_u1 (B.2 123) 8 0)) 125 (B.2 124)) 127 (B.2 124) 124 = ρ 124 := by
      rw [k_up_ne (by decide), k_up_ne (by decide), k_up_ne (by decide)]
      exact bne 124 (by decide) (by decide) (by decide) (by decide)
    have m127 : k_up (k_up (k_up B.2 123 (k_u1 (B.2 123) 8 0)) 125 (B.2 124)) 127 (B.2 124) 127 = ρ 124 := k_up_same.trans (bne 124 (by decide) (by decide) (by decide) (by decide))
    have m125 : k_up (k_up (k_up B.2 123 (k_u1 (B.2 123) 8 0)) 125 (B.2 124)) 127 (B.2 124) 125 = ρ 124 := by
      rw [k_up_ne (by decide), k_up_same]
      exact bne 124 (by decide) (by decide) (by decide) (by decide)
    have m123 : k_up (k_up (k_up B.2 123 (k_u1 (B.2 123) 8 0)) 125 (B.2 124)) 127 (B.2 124) 123 = k_u1 (B.2 123) 8 0 := by
      rw [k_up_ne (by decide), k_up_ne (by decide), k_up_same]
    have mne : ∀ i, i ≠ 123 → i ≠ 125 → i ≠ 127 → k_up (k_up (k_up B.2 123 (k_u1 (B.2 123) 8 0)) 125 (B.2 124)) 127 (B.2 124) i = B.2 i := fun i a1 a2 a3 => by rw [k_up_ne a3, k_up_ne a2, k_up_ne a1]
    generalize k_up (k_up (k_up B.2 123 (k_u1 (B.2 123) 8 0)) 125 (B.2 124)) 127 (B.2 124) = ρ1 at m124 m127 m125 m123 mne ⊢
    have hCm : k_Cm (G.1 116 3).toNat (u_copy u1 107 1) ρ1 := k_Cm_cong (k_Cd_Cm (by omega) hCd) ((s_ne 119 (by decide)).trans u_c119) ((s_ne 120 (by decide)).trans u_c120) (mne 138 (by decide) (by decide) (by decide)) (mne 139 (by decide) (by decide) (by decide))
    have hP0 : k_P1 (ρ1 124) (u_copy u1 107 1) := by
      rw [m124]
      exact (k_PA_1.mp (k_PA_cong (k_PA_of1 hRel.1 hOK.1) fun i a b => s_lo i (by omega))).1
    have n123 : ∀ j, j ≠ 8 → j ≠ 16 → j ≠ 28 → j ≠ 29 → j ≠ 30 → ρ1 123 j = ρ 123 j := fun j a0 a1 a2 a3 a4 => by
      rw [m123, n_u1_ne a0]
      exact b123 j a1 a2 a3 a4
    obtain ⟨x1, x2⟩ := q_exec ρ (N := (G.1 116 3).toNat) (by omega) (G.1 116 3).toNat 0 (u_copy u1 107 1) ρ1 (by omega) hexB hP0 (by rw [m123]; exact n_u1_eq) (by rw [n123 9 (by decide) (by decide) (by decide) (by decide) (by decide), s_lo 23 (by decide)]; exact hRel.2.2.2) hCm
    have hA0 : k_A5 (u_copy u1 107 1) := k_A5_of h5 (s_lo 18 (by decide))
    have hA1 := g_ex_18 (G.1 116 3).toNat 0 (u_copy u1 107 1) (Int.le_refl 0) (by omega) x1 hA0
    refine ⟨fun _ => x1, ?_⟩
    rcases x2 with ⟨τ', ρ', y1, y2, y3, y4, y5, y6, y7, y8⟩ | ⟨j, e, τ', ρ', y0, ye, y1, y2, y4, y6, y7, y8⟩
    · -- all of them done
      have y2' : g_ex (G.1 116 3).toNat 0 (u_copy u1 107 1) = _ := y2
      rw [y2'] at hA1 ⊢
      rw [y1]
      have z123 : ∀ j, j ≠ 8 → j ≠ 9 → j ≠ 19 → ρ' 123 j = ρ1 123 j := y7.2
      have z5 : ρ' 123 5 = ρ 123 5 := (z123 5 (by decide) (by decide) (by decide)).trans (n123 5 (by decide) (by decide) (by decide) (by decide) (by decide))
      have z6 : ρ' 123 6 = ρ 123 6 := (z123 6 (by decide) (by decide) (by decide)).trans (n123 6 (by decide) (by decide) (by decide) (by decide) (by decide))
      have z128 : ρ' 128 = ρ 128 := (y7.1 128 (by omega)).trans ((mne 128 (by decide) (by decide) (by decide)).trans (bne 128 (by decide) (by decide) (by decide) (by decide)))
      have z126 : ρ' 126 = ρ 126 := (y7.1 126 (by omega)).trans ((mne 126 (by decide) (by decide) (by decide)).trans (bne 126 (by decide) (by decide) (by decide) (by decide)))
      have z125 : ρ' 125 = ρ 124 := (y7.1 125 (by omega)).trans m125
      have c_lo : ∀ i, (i = 0 ∨ 24 ≤ i ∧ i < 107) → τ' i = σ i := fun i hi => (y8 i (by omega)).trans (s_lo i (by omega))
      have hHi' : k_Hi τ' := y4.2.2.2.2
      have hHs' : k_Hs τ' ρ' := k_Hs_cong hRel.2.1 hOK.2.2.2.2 (fun i a b => c_lo i (by omega)) z5 z128
      have hc := hHi'.2.2
      have hE := m_ends_0 (τ := ρ') y5 (by rw [hHs'.1]; exact hc) (ρ' 123 29) 0 0
      have er : k_els (r_execute_51 ρ) (.inr ρ') = ((m_ends ρ' (ρ' 123 29) 0 0).1, (m_ends ρ' (ρ' 123 29) 0 0).2) := rfl
      rw [er]
      generalize m_ends ρ' (ρ' 123 29) 0 0 = Y at hE ⊢
      obtain ⟨b1, b2, b3, b4, b5, b6, b7⟩ := hE
      rw [hHs'.1] at b3 b6 b7
      have kne : ∀ i, (i < 24 ∨ 98 ≤ i) → u_keepB τ' 107 i = τ' i := fun i hi => u_keepB_ne hHi'.2.1 hi
      have kpl : k_PlEq (u_keepB τ' 107) τ' := u_keepB_pl hHi'.2.1
      have k25 : u_keepB τ' 107 25 = τ' 25 := by
        unfold u_keepB
        rw [k_up_ne (by decide)]
        exact u_copy_ne (by omega)
      have hPA' : k_PA (ρ 124) τ' 107 := k_PA_cong hPA fun i a b => y8 i (by omega)
      have hHs2 : k_Hs (u_keepB τ' 107) Y.2 := q_keepB hHs' hHi' (k_PA_tail hPA' (fun j hj => (b6 j hj).trans (by rw [z125])) (fun j hj => if_neg hj)) (fun i _ _ => rfl) (by rw [b3, hHs'.1]) b7
      have z29 : ρ' 123 29 = G.1 116 3 := (z123 29 (by decide) (by decide) (by decide)).trans (by rw [m123, n_u1_ne (by decide)]; exact h29)
      have hi118 : ∀ i, 118 ≤ i → i ≠ 119 → i ≠ 120 → u_keepB τ' 107 i = σ i := fun i a1 a2 a3 => (kne i (by omega)).trans ((y8 i (by omega)).trans ((s_ne i (by omega)).trans (u_ne i (by omega) (by omega) a2 a3)))
      have k117 : u_keepB τ' 107 117 = u1 117 := (kne 117 (by decide)).trans ((y8 117 (by decide)).trans (s_ne 117 (by decide)))
      have k119 : u_keepB τ' 107 119 = u1 119 := (kne 119 (by decide)).trans ((y8 119 (by decide)).trans (s_ne 119 (by decide)))
      have k120 : u_keepB τ' 107 120 = u1 120 := (kne 120 (by decide)).trans ((y8 120 (by decide)).trans (s_ne 120 (by decide)))
      have kv : u_keepB τ' 107 v = u1 v := (kne v (by omega)).trans ((y8 v (by omega)).trans (s_ne v (by omega)))
      have k0 : u_keepB τ' 107 0 = σ 0 := (kne 0 (by decide)).trans (c_lo 0 (by omega))
      have w123 : ∀ j, j ≠ 5 → j ≠ 7 → j ≠ 8 → j ≠ 9 → j ≠ 19 → j ≠ 16 → j ≠ 28 → j ≠ 29 → j ≠ 30 → Y.2 123 j = ρ 123 j := fun j a1 a2 a3 a4 a5 a6 a7 a8 a9 => (b4 j a1 a2).trans ((z123 j a3 a4 a5).trans (n123 j a3 a6 a7 a8 a9))
      dsimp only
      refine ⟨?_, ⟨?_, hHs2, ?_, ?_⟩, k_OK_keep y4, hA1, hPJ _ k117 kv k119 k120, ?_, ⟨hi118, fun i a b => ?_, ?_, fun j _ => by rw [k0], by rw [k117]; exact u_0⟩, ⟨fun i hi => ?_, ?_, ?_⟩⟩
      · rw [b2, b1, z29]
        refine k_ag_v ?_ ?_ <;> omega
      · rw [b5 124 (by decide) (by decide)]
        exact k_P1_pl kpl y3
      · refine k_Sv_cong hRel.2.2.1 (fun i a b => ?_) (by rw [k0]) ((b4 6 (by decide) (by decide)).trans z6) ((b5 126 (by decide) (by decide)).trans z126)
        exact (kne i (by omega)).trans (c_lo i (by omega))
      · rw [b4 9 (by decide) (by decide), kne 23 (by decide)]
        exact y6
      · unfold k_Nm
        rw [k0, w123 10 (by decide) (by decide) (by decide) (by decide) (by decide) (by decide) (by decide) (by decide) (by decide), w123 11 (by decide) (by decide) (by decide) (by decide) (by decide) (by decide) (by decide) (by decide) (by decide), w123 12 (by decide) (by decide) (by decide) (by decide) (by decide) (by decide) (by decide) (by decide) (by decide)]
        exact hNm
      · exact (kne i (by omega)).trans (c_lo i (by omega))
      · exact k25.trans (c_lo 25 (by omega))
      · rw [b5 i (by omega) (by omega), y7.1 i (by omega), mne i (by omega) (by omega) (by omega)]
        exact bne i (by omega) (by omega) (by omega) (by omega)
      · rw [b4 16 (by decide) (by decide), z123 16 (by decide) (by decide) (by decide), m123, n_u1_ne (by decide)]
        exact b16
      · exact w123 15 (by decide) (by decide) (by decide) (by decide) (by decide) (by decide) (by decide) (by decide) (by decide)
    · -- one of them failed
      have y2' : g_ex (G.1 116 3).toNat 0 (u_copy u1 107 1) = _ := y2
      rw [y2'] at hA1 ⊢
      rw [y1]
      have er : k_els (r_execute_51 ρ) (.inl ((0 : Int), k_up (k_up ρ' 123 (k_u1 (k_u1 (k_u1 (ρ' 123) 11 (j : Int)) 12 e) 7 2)) 124 (ρ' 127))) = ((0 : Int), k_up (k_up ρ' 123 (k_u1 (k_u1 (k_u1 (ρ' 123) 11 (j : Int)) 12 e) 7 2)) 124 (ρ' 127)) := rfl
      rw [er]
      have z123 : ∀ j, j ≠ 8 → j ≠ 9 → j ≠ 19 → ρ' 123 j = ρ1 123 j := y7.2
      have f_ne : ∀ i, i ≠ 0 → u_fail τ' (j : Int) e i = u_copy τ' 1 107 i := fun i hi => by
        unfold u_fail
        rw [k_up_ne hi, k_up_ne hi]
      have f_hi : ∀ i, 10 ≤ i → u_fail τ' (j : Int) e i = τ' i := fun i hi => (f_ne i (by omega)).trans (u_copy_ne (by omega))
      have f_0 : u_fail τ' (j : Int) e 0 = k_u1 (k_u1 (τ' 0) 12 (j : Int)) 13 e := by
        unfold u_fail
        rw [k_up_same, k_up_same, u_copy_ne (Or.inl (by decide))]
      have hPA' : k_PA (ρ 124) τ' 107 := k_PA_cong hPA fun i a b => y8 i (by omega)
      have hPF : k_PA (ρ 124) (u_fail τ' (j : Int) e) 1 := k_PA_cong (u_copy_PA (A := 1) hPA') fun i a b => f_ne i (by omega)
      obtain ⟨hPF1, hPF2⟩ := k_PA_1.mp hPF
      have c_lo : ∀ i, (i = 0 ∨ 24 ≤ i ∧ i < 107) → τ' i = σ i := fun i hi => (y8 i (by omega)).trans (s_lo i (by omega))
      generalize u_fail τ' (j : Int) e = F at hA1 f_ne f_hi f_0 hPF hPF1 hPF2 ⊢
      have r123 : k_up (k_up ρ' 123 (k_u1 (k_u1 (k_u1 (ρ' 123) 11 (j : Int)) 12 e) 7 2)) 124 (ρ' 127) 123 = k_u1 (k_u1 (k_u1 (ρ' 123) 11 (j : Int)) 12 e) 7 2 := by
        rw [k_up_ne (by decide), k_up_same]
      have r124 : k_up (k_up ρ' 123 (k_u1 (k_u1 (k_u1 (ρ' 123) 11 (j : Int)) 12 e) 7 2)) 124 (ρ' 127) 124 = ρ 124 := k_up_same.trans ((y7.1 127 (by omega)).trans m127)
      have rne : ∀ i, i ≠ 123 → i ≠ 124 → k_up (k_up ρ' 123 (k_u1 (k_u1 (k_u1 (ρ' 123) 11 (j : Int)) 12 e) 7 2)) 124 (ρ' 127) i = ρ' i := fun i a b => by rw [k_up_ne b, k_up_ne a]
      generalize k_up (k_up ρ' 123 (k_u1 (k_u1 (k_u1 (ρ' 123) 11 (j : Int)) 12 e) 7 2)) 124 (ρ' 127) = Z at r123 r124 rne ⊢
      have w123 : ∀ i, i ≠ 7 → i ≠ 8 → i ≠ 9 → i ≠ 11 → i ≠ 12 → i ≠ 16 → i ≠ 19 → i ≠ 28 → i ≠ 29 → i ≠ 30 → Z 123 i = ρ 123 i := fun i a1 a2 a3 a4 a5 a6 a7 a8 a9 a10 => by
        rw [r123, n_u1_ne a1, n_u1_ne a5, n_u1_ne a4]
        exact (z123 i a2 a3 a7).trans (n123 i a2 a6 a8 a9 a10)
      have z128 : Z 128 = ρ 128 := (rne 128 (by decide) (by decide)).trans ((y7.1 128 (by omega)).trans ((mne 128 (by decide) (by decide) (by decide)).trans (bne 128 (by decide) (by decide) (by decide) (by decide))))
      have z126 : Z 126 = ρ 126 := (rne 126 (by decide) (by decide)).trans ((y7.1 126 (by omega)).trans ((mne 126 (by decide) (by decide) (by decide)).trans (bne 126 (by decide) (by decide) (by decide) (by decide))))
      have hi116 : ∀ i, 116 ≤ i → F i = u1 i := fun i hi => (f_hi i (by omega)).trans ((y8 i (by omega)).trans (s_ne i (by omega)))
      have f0j : ∀ i, i ≠ 12 → i ≠ 13 → F 0 i = σ 0 i := fun i a b => by
        rw [f_0, n_u1_ne b, n_u1_ne a, c_lo 0 (by omega)]
      have f12 : F 0 12 = (j : Int) := by
        rw [f_0, n_u1_ne (by decide)]
        exact n_u1_eq
      have f13 : F 0 13 = e := by
        rw [f_0]
        exact n_u1_eq
      dsimp only
      refine ⟨?_, ⟨by rw [r124]; exact hPF1, ?_, ?_, ?_⟩, k_OK_pl y4 hPF2 f_hi, hA1, hPJ _ (hi116 117 (by decide)) (hi116 v (by omega)) (hi116 119 (by decide)) (hi116 120 (by decide)), ⟨?_, ?_, ?_, ?_⟩, ⟨fun i a1 a2 a3 => ?_, fun i a b => ?_, ?_, fun i hi => f0j i (by omega) (by omega), ?_⟩, ⟨fun i hi => ?_, ?_, ?_⟩⟩
      · refine k_ag_x x_m2 ?_
        rw [r123, n_u1_eq]
        decide
      · refine k_Hs_cong hRel.2.1 hOK.2.2.2.2 (fun i a b => (f_hi i (by omega)).trans (c_lo i (by omega))) ?_ z128
        exact w123 5 (by decide) (by decide) (by decide) (by decide) (by decide) (by decide) (by decide) (by decide) (by decide) (by decide)
      · refine k_Sv_cong hRel.2.2.1 (fun i a b => (f_hi i (by omega)).trans (c_lo i (by omega))) (f0j 10 (by decide) (by decide)) ?_ z126
        exact w123 6 (by decide) (by decide) (by decide) (by decide) (by decide) (by decide) (by decide) (by decide) (by decide) (by decide)
      · rw [r123, n_u1_ne (by decide), n_u1_ne (by decide), n_u1_ne (by decide), f_hi 23 (by decide)]
        exact y6
      · rw [f0j 11 (by decide) (by decide)]
        exact (w123 10 (by decide) (by decide) (by decide) (by decide) (by decide) (by decide) (by decide) (by decide) (by decide) (by decide)).trans hNm.1
      · rw [f12, r123, n_u1_ne (by decide), n_u1_ne (by decide)]
        exact n_u1_eq
      · rw [f12, f13]
        exact ⟨fun y => by omega, fun y => by omega⟩
      · rw [f13, r123, n_u1_ne (by decide)]
        exact n_u1_eq
      · exact (hi116 i (by omega)).trans (u_ne i (by omega) (by omega) a2 a3)
      · exact (f_hi i (by omega)).trans (c_lo i (by omega))
      · exact (f_hi 25 (by decide)).trans (c_lo 25 (by omega))
      · rw [hi116 117 (by decide)]
        exact u_0
      · rw [rne i (by omega) (by omega), y7.1 i (by omega), mne i (by omega) (by omega) (by omega)]
        exact bne i (by omega) (by omega) (by omega) (by omega)
      · rw [r123, n_u1_ne (by decide), n_u1_ne (by decide), n_u1_ne (by decide), z123 16 (by decide) (by decide) (by decide), m123, n_u1_ne (by decide)]
        exact b16
      · exact w123 15 (by decide) (by decide) (by decide) (by decide) (by decide) (by decide) (by decide) (by decide) (by decide) (by decide)
  · -- the text can't be read
    rw [if_neg q, if_neg (show ¬ B.1 = -1 from fun y => q (g1.trans y))]
    have r123 : k_up B.2 123 (k_u1 (k_u1 (B.2 123) 10 B.1) 7 1) 123 = k_u1 (k_u1 (B.2 123) 10 B.1) 7 1 := k_up_same
    have rne : ∀ i, i ≠ 123 → k_up B.2 123 (k_u1 (k_u1 (B.2 123) 10 B.1) 7 1) i = B.2 i := fun i a => k_up_ne a
    have f_ne : ∀ i, i ≠ 0 → k_up u1 0 (k_u1 (u1 0) 11 G.2) i = u1 i := fun i a => k_up_ne a
    have f_0 : k_up u1 0 (k_u1 (u1 0) 11 G.2) 0 = k_u1 (u1 0) 11 G.2 := k_up_same
    generalize k_up B.2 123 (k_u1 (k_u1 (B.2 123) 10 B.1) 7 1) = Z at r123 rne ⊢
    generalize k_up u1 0 (k_u1 (u1 0) 11 G.2) = F at f_ne f_0 ⊢
    have w123 : ∀ i, i ≠ 7 → i ≠ 10 → i ≠ 16 → i ≠ 28 → i ≠ 29 → i ≠ 30 → Z 123 i = ρ 123 i := fun i a1 a2 a3 a4 a5 a6 => by
      rw [r123, n_u1_ne a1, n_u1_ne a2]
      exact b123 i a3 a4 a5 a6
    have f_lo : ∀ i, i ≠ 0 → i < 116 → F i = σ i := fun i a b => (f_ne i a).trans (u_ne i (by omega) (by omega) (by omega) (by omega))
    have e00 : u1 0 = σ 0 := u_ne 0 (by decide) (by decide) (by decide) (by decide)
    have f0j : ∀ i, i ≠ 11 → F 0 i = σ 0 i := fun i a => by
      rw [f_0, n_u1_ne a, e00]
    have f11 : F 0 11 = G.2 := by
      rw [f_0]
      exact n_u1_eq
    have hOKF : k_OK F := by
      obtain ⟨hI, hS, hC, hA, hH⟩ := hOK
      exact ⟨k_Ty_19 (fun i a b => f_lo i (by omega) (by omega)) hI, k_Sc_of hS (f_lo _ (by decide) (by decide)) (f_lo _ (by decide) (by decide)) (f_lo _ (by decide) (by decide)), k_Ch_of hC (f_lo _ (by decide) (by decide)) (f_lo _ (by decide) (by decide)) (f_lo _ (by decide) (by decide)), k_Ar_of hA (f_lo _ (by decide) (by decide)) (f_lo _ (by decide) (by decide)) (f_lo _ (by decide) (by decide)) (f_lo _ (by decide) (by decide)), k_Hi_of hH (f_lo _ (by decide) (by decide)) (f_lo _ (by decide) (by decide))⟩
    dsimp only
    refine ⟨fun y => absurd y q, ?_, ?_, hOKF, k_A5_of h5 (f_lo 18 (by decide) (by decide)), hPJ _ (f_ne 117 (by decide)) (f_ne v (by omega)) (f_ne 119 (by decide)) (f_ne 120 (by decide)), ⟨?_, ?_, ?_, ?_⟩, ⟨fun i a1 a2 a3 => ?_, fun i a b => f_lo i (by omega) (by omega), f_lo 25 (by decide) (by decide), fun i hi => f0j i (by omega), ?_⟩, ⟨fun i hi => ?_, ?_, ?_⟩⟩
    · refine k_ag_x x_m1 ?_
      rw [r123, n_u1_eq]
      decide
    · exact k_Rel_cong hRel hOK.2.2.2.2 (fun i a b => f_lo i (by omega) (by omega)) (fun i a b => f_lo i (by omega) (by omega)) (f0j 10 (by decide)) (w123 5 (by decide) (by decide) (by decide) (by decide) (by decide) (by decide)) (w123 6 (by decide) (by decide) (by decide) (by decide) (by decide) (by decide)) (w123 9 (by decide) (by decide) (by decide) (by decide) (by decide) (by decide)) ((rne 124 (by decide)).trans (bne 124 (by decide) (by decide) (by decide) (by decide))) ((rne 126 (by decide)).trans (bne 126 (by decide) (by decide) (by decide) (by decide))) ((rne 128 (by decide)).trans (bne 128 (by decide) (by decide) (by decide) (by decide)))
    · rw [f11, r123, n_u1_ne (by decide), n_u1_eq]
      exact g1.symm
    · rw [f0j 12 (by decide)]
      exact (w123 11 (by decide) (by decide) (by decide) (by decide) (by decide) (by decide)).trans hNm.2.1
    · rw [f0j 12 (by decide), f0j 13 (by decide)]
      exact hNm.2.2.1
    · rw [f0j 13 (by decide)]
      exact (w123 12 (by decide) (by decide) (by decide) (by decide) (by decide) (by decide)).trans hNm.2.2.2
    · exact (f_ne i (by omega)).trans (u_ne i (by omega) (by omega) a2 a3)
    · rw [f_ne 117 (by decide)]
      exact u_0
    · rw [rne i (by omega)]
      exact bne i (by omega) (by omega) (by omega) (by omega)
    · rw [r123, n_u1_ne (by decide), n_u1_ne (by decide)]
      exact b16
    · exact w123 15 (by decide) (by decide) (by decide) (by decide) (by decide) (by decide)
end K_R44
