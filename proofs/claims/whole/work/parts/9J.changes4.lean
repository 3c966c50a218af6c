/-! ===== setSize, withdraw, undo, restore, save, enrolAll: a step each ===== -/
section K_SD4
variable {E : k_E} {M7 ML M8 : k_M} {sh sh' : List k_Sh} {σ ρ τ υ : Nat → Nat → Int} {v w : Nat} {as : List Value}
theorem ev_rs (s z : Int) : e_resize σ s z = 0 ∨ e_resize σ s z = 1 ∨ e_resize σ s z = 2 ∨ e_resize σ s z = 3 := by
  unfold e_resize
  (repeat' split) <;> omega
theorem ev_wd (p : Int) : e_withdraw σ p = 0 ∨ e_withdraw σ p = 1 ∨ e_withdraw σ p = 3 := by
  unfold e_withdraw
  (repeat' split) <;> omega
theorem st_setSize (hI : k_In3 sh v w σ) {s z : Int} (hs : -2147483648 ≤ s ∧ s < 2147483648) (hz : -2147483648 ≤ z ∧ z < 2147483648) : k_Stp E k_Inv mL_setSize mX8_setSize [.int (iI s), .int (iI z)] k_r sh σ := by
  have hT : ∀ e : Int, e = e_resize σ s z → e ≠ 0 → x_of e ∈ [x_io, x_ia, x_is] ∧ w_code [x_io, x_ia, x_is] (.inr (x_of e)) = if e = 1 then 1 else if e = 2 then 2 else 3 := fun e he h0 => by
    rcases ev_rs (σ := σ) s z with h | h | h | h
    · exact absurd (he.trans h) h0
    · rw [he, h]
      exact ⟨List.mem_cons_self, by decide⟩
    · rw [he, h]
      exact ⟨List.mem_cons_of_mem _ List.mem_cons_self, by decide⟩
    · rw [he, h]
      exact ⟨List.mem_cons_of_mem _ (List.mem_cons_of_mem _ List.mem_cons_self), by decide⟩
  refine stp_chg (tbl := [x_io, x_ia, x_is]) (m := fun ρ => m_setSize ρ s z) hI ?_ (fun i hi => ?_) (fun j _ _ => ?_) ?_ (by decide) ⟨by decide, by decide, by decide, by decide⟩ (fun hsp => cw_setSize hI.main hI.main (c7_setSize hI.main hI.ty hI.ok.2.2.2.2 hs hz) (sp3 hsp)) (fun ρ hM _ => c8_setSize hI.main hM hs hz) (fun ρ hr hR => ?_) (fun ρ => fe_ends (m_setSizeNow_fr s z) _ 1 2)
  · split
    · exact k_A5_of hI.a5 ((k_up_ne (by decide)).trans (kp_far hI.ok.2.2.2.2 (by omega)))
    · exact hI.a5
  · split
    · exact (k_up_ne (by omega)).trans (kp_far hI.ok.2.2.2.2 (by omega))
    · rfl
  · split
    · rw [k_up_ne (by decide)]
      exact congrFun (kp_far hI.ok.2.2.2.2 (by omega)) j
    · rfl
  · by_cases q : e_resize σ s z = 0
    · rw [if_pos q]
      exact Or.inl ⟨_, rfl⟩
    · rw [if_neg q]
      exact Or.inr ⟨_, (hT _ rfl q).1, rfl⟩
  · obtain ⟨q1, q2, q3⟩ := q_m_setSize hr hI.ok s z
    have hR1 := hR.1
    refine ⟨?_, q1, k_OK_setSize hI.ok⟩
    by_cases q : e_resize σ s z = 0
    · rw [if_pos q, (q2 q).2]
      exact k_ag_v (by have := (q2 q).1; omega) (q2 q).1.symm
    · rw [if_neg q]
      exact k_ag_x (hT _ rfl q).1 ((q3 q).2.trans (hT _ rfl q).2.symm)
theorem st_withdraw (hI : k_In3 sh v w σ) {p : Int} (hp : -2147483648 ≤ p ∧ p < 2147483648) : k_Stp E k_Inv mL_withdraw mX8_withdraw [.int (iI p)] k_r sh σ := by
  have hT : ∀ e : Int, e = e_withdraw σ p → e ≠ 0 → x_of e ∈ [x_io, x_is] ∧ w_code [x_io, x_is] (.inr (x_of e)) = if e = 1 then 1 else if e = 3 then 2 else 3 := fun e he h0 => by
    rcases ev_wd (σ := σ) p with h | h | h
    · exact absurd (he.trans h) h0
    · rw [he, h]
      exact ⟨List.mem_cons_self, by decide⟩
    · rw [he, h]
      exact ⟨List.mem_cons_of_mem _ List.mem_cons_self, by decide⟩
  have hd : ∀ i, i ≠ 4 → u_drop (u_kep σ) p i = u_kep σ i := fun i hi => by
    unfold u_drop u_dropN
    exact k_fold_inv (P := fun τ : Nat → Nat → Int => τ i = u_kep σ i) rfl (fun k τ hτ => (u_leave_ne hi).trans hτ) _
  refine stp_chg (tbl := [x_io, x_is]) (m := fun ρ => m_withdraw ρ p) hI ?_ (fun i hi => ?_) (fun j _ _ => ?_) ?_ (by decide) ⟨by decide, by decide, by decide, by decide⟩ (fun hsp => cw_withdraw hI.main hI.main (c7_withdraw hI.main hI.ty hI.ok.2.2.2.2 hp) (sp2 hsp)) (fun ρ hM _ => c8_withdraw hI.main hM hp) (fun ρ hr hR => ?_) (fun ρ => fe_ends (m_withdrawNow_fr p) _ 1 3)
  · split
    · exact k_A5_of hI.a5 ((hd 18 (by decide)).trans (kp_far hI.ok.2.2.2.2 (by omega)))
    · exact hI.a5
  · split
    · exact (hd i (by omega)).trans (kp_far hI.ok.2.2.2.2 (by omega))
    · rfl
  · split
    · rw [hd 0 (by decide)]
      exact congrFun (kp_far hI.ok.2.2.2.2 (by omega)) j
    · rfl
  · by_cases q : e_withdraw σ p = 0
    · rw [if_pos q]
      exact Or.inl ⟨_, rfl⟩
    · rw [if_neg q]
      exact Or.inr ⟨_, (hT _ rfl q).1, rfl⟩
  · obtain ⟨q1, q2, q3⟩ := q_m_withdraw hr hI.ok p
    have hR1 := hR.1
    refine ⟨?_, q1, k_OK_withdraw hI.ok⟩
    by_cases q : e_withdraw σ p = 0
    · rw [if_pos q, (q2 q).2]
      exact k_ag_v (by have := (q2 q).1; omega) (q2 q).1.symm
    · rw [if_neg q]
      exact k_ag_x (hT _ rfl q).1 ((q3 q).2.trans (hT _ rfl q).2.symm)
theorem fe_undo : k_Fe (m_undo ρ).2 ρ := by
  unfold m_undo r_undo_25
  split
  · exact ⟨fun i hi => k_up_ne (by omega), fun j hj => by dsimp only; rw [k_up_same, n_u1_ne (by omega)]⟩
  · refine ⟨fun i hi => ?_, fun j hj => ?_⟩
    · dsimp only
      rw [k_up_ne (by omega), k_up_ne (by omega)]
    · dsimp only
      rw [k_up_ne (by decide), k_up_same, n_u1_ne (by omega), n_u1_ne (by omega)]
theorem fe_restore : k_Fe (m_restore ρ).2 ρ := by
  unfold m_restore
  split
  · exact ⟨fun i hi => k_up_ne (by omega), fun j hj => by dsimp only; rw [k_up_same, n_u1_ne (by omega)]⟩
  · refine ⟨fun i hi => ?_, fun j hj => ?_⟩
    · dsimp only
      rw [k_up_ne (by omega), k_up_ne (by omega)]
    · dsimp only
      rw [k_up_ne (by decide), k_up_same, n_u1_ne (by omega), n_u1_ne (by omega)]
theorem fe_save : k_Fe (m_save ρ).2 ρ := by
  unfold m_save
  refine ⟨fun i hi => ?_, fun j hj => ?_⟩
  · dsimp only
    rw [k_up_ne (by omega), k_up_ne (by omega)]
  · dsimp only
    rw [k_up_ne (by decide), k_up_same, n_u1_ne (by omega), n_u1_ne (by omega)]
theorem fe_enrolAll : k_Fe (m_enrolAll ρ).2 ρ := by
  have h := k_it_inv (f := b_enrolAll_8 ρ) (J := fun _ (x : Int × (Nat → Nat → Int)) => k_Fr x.2 (g_begin ρ)) (fun i x hx => by
    unfold b_enrolAll_8
    (repeat' split) <;> first | exact hx | exact k_Fr_tr (m_enrolNow_fr _) hx) (ρ 124 2).toNat 0 (0, g_begin ρ) k_Fr_rf
  exact fe_ends h _ 0 0
theorem st_undo (hI : k_In3 sh v w σ) : k_Stp E k_Inv mL_undo mX8_undo [] k_r sh σ := by
  have hb : ∀ i, i = 0 ∨ 10 ≤ i → i ≠ 24 → u_back σ i = σ i := fun i h1 h2 => u_back_ne h1 h2
  refine stp_chg (tbl := [x_is]) (m := fun ρ => m_undo ρ) hI ?_ (fun i hi => ?_) (fun j _ _ => ?_) ?_ (by decide) ⟨by decide, by decide, by decide, by decide⟩ (fun hsp => cw_undo hI.main hI.main (c7_undo hI.main hI.ty hI.ok.2.2.2.2) (sp1 hsp)) (fun ρ hM hr => c8_undo2 hI.main hM fun u hu => (hr.2.1.2 u (by rw [← hr.2.1.1]; exact hu)).1.1) (fun ρ hr hR => ?_) (fun ρ => fe_undo)
  · split
    · exact k_A5_of hI.a5 (hb 18 (by omega) (by decide))
    · exact hI.a5
  · split
    · exact hb i (by omega) (by omega)
    · rfl
  · split
    · rw [hb 0 (by omega) (by decide)]
    · rfl
  · split
    · exact Or.inl ⟨_, rfl⟩
    · exact Or.inr ⟨_, List.mem_cons_self, rfl⟩
  · exact q_a_undo hr hI.ok hR.2.2.1
theorem st_restore (hI : k_In3 sh v w σ) : k_Stp E k_Inv mL_restore mX8_restore [] k_r sh σ := by
  have hb : ∀ i, i = 0 ∨ 10 ≤ i → i ≠ 24 → k_up (u_copy σ 1 98) 24 (k_u1 (σ 24) 2 0) i = σ i := fun i h1 h2 => (k_up_ne h2).trans (u_copy_ne (by omega))
  refine stp_chg (tbl := [x_is]) (m := fun ρ => m_restore ρ) hI ?_ (fun i hi => ?_) (fun j _ _ => ?_) ?_ (by decide) ⟨by decide, by decide, by decide, by decide⟩ (fun hsp => cw_restore hI.main hI.main (c7_restore hI.main hI.ty hI.fc) (sp1 hsp)) (fun ρ hM hr => c8_restore hI.main hM fun h => (hr.2.2.1.2 (by rw [← hr.2.2.1.1]; exact h)).1.1) (fun ρ hr hR => ?_) (fun ρ => fe_restore)
  · split
    · exact hI.a5
    · exact k_A5_of hI.a5 (hb 18 (by omega) (by decide))
  · split
    · rfl
    · exact hb i (by omega) (by omega)
  · split
    · rfl
    · rw [hb 0 (by omega) (by decide)]
  · split
    · exact Or.inr ⟨_, List.mem_cons_self, rfl⟩
    · exact Or.inl ⟨_, rfl⟩
  · exact q_a_restore hr hI.ok
theorem st_save (hI : k_In3 sh v w σ) : k_StpD E k_Inv mX7_save mX8_save sh σ := by
  have hb : ∀ i, i ≠ 0 → (i < 98 ∨ 107 ≤ i) → k_up (u_copy σ 98 1) 0 (k_u1 (σ 0) 10 1) i = σ i := fun i h1 h2 => (k_up_ne h1).trans (u_copy_ne (by omega))
  have hK : k_OK (k_up (u_copy σ 98 1) 0 (k_u1 (σ 0) 10 1)) := by
    obtain ⟨h1, hS, hC, hA, hH⟩ := hI.ok
    exact ⟨k_Ty_19 (fun i _ _ => hb i (by omega) (by omega)) h1, k_Sc_of hS (hb _ (by decide) (by decide)) (hb _ (by decide) (by decide)) (hb _ (by decide) (by decide)), k_Ch_of hC (hb _ (by decide) (by decide)) (hb _ (by decide) (by decide)) (hb _ (by decide) (by decide)), k_Ar_of hA (hb _ (by decide) (by decide)) (hb _ (by decide) (by decide)) (hb _ (by decide) (by decide)) (hb _ (by decide) (by decide)), k_Hi_of hH (hb _ (by decide) (by decide)) (hb _ (by decide) (by decide))⟩
  exact stp_dirC (m := fun ρ => m_save ρ) hI hK (k_A5_of hI.a5 (hb 18 (by decide) (by decide))) (fun i hi => hb i (by omega) (by omega)) (fun j h1 h2 => by rw [k_up_same]; exact n_u1_ne (by omega)) ⟨by decide, by decide, by decide, by decide⟩ (c7_save hI.main hI.ty) (fun ρ hM => c8_save hI.main hM) (fun ρ hr => ⟨(q_save hr hI.ty).1.symm, (q_save hr hI.ty).2⟩) (fun ρ => fe_save)
theorem st_enrolAll (hI : k_In3 sh v w σ) : k_StpD E k_Inv mX7_enrolAll mX8_enrolAll sh σ := by
  obtain ⟨-, -, -, -, h6⟩ := q_m_enrolAll hI.ir.1 hI.ok
  have hb : ∀ i, i = 0 ∨ i = 18 ∨ i = 25 ∨ 98 ≤ i → (g_ea σ (σ 1 2).toNat).1 i = σ i := fun i hi => (h6 i (by omega) (by omega) (by omega) (by omega) (by omega)).trans (kp_far hI.ok.2.2.2.2 (by omega))
  exact stp_dirC (m := fun ρ => m_enrolAll ρ) hI (k_OK_ea hI.ok h6) (k_A5_of hI.a5 (hb 18 (by omega))) (fun i hi => hb i (by omega)) (fun j h1 h2 => by rw [hb 0 (by omega)]) ⟨by decide, by decide, by decide, by decide⟩ (c7_enrolAll hI.main hI.ty hI.ok.2.1 hI.ok.2.2.2.2) (fun ρ hM => c8_enrolAll hI.main hM) (fun ρ hr => ⟨(q_m_enrolAll hr hI.ok).2.1.symm, (q_m_enrolAll hr hI.ok).1⟩) (fun ρ => fe_enrolAll)
end K_SD4
