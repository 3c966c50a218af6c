/-! ===== WHAT THE CLASS'S CELLS HOLD is kept by every change ===== -/
section K_R34
variable {σ ρ τ : Nat → Nat → Int} {r : Nat → Int}
theorem k_OK_pl (h : k_OK σ) (hI : k_Ty τ) (e : ∀ i, 10 ≤ i → τ i = σ i) : k_OK τ := by
  obtain ⟨-, hS, hC, hA, hH⟩ := h
  exact ⟨hI, k_Sc_of hS (e _ (by decide)) (e _ (by decide)) (e _ (by decide)), k_Ch_of hC (e _ (by decide)) (e _ (by decide)) (e _ (by decide)), k_Ar_of hA (e _ (by decide)) (e _ (by decide)) (e _ (by decide)) (e _ (by decide)), k_Hi_of hH (e _ (by decide)) (e _ (by decide))⟩
theorem z_rg_u {lo hi : Int} {f : Nat → Int} {k : Nat} {v : Int} (h : ∀ j, lo ≤ f j ∧ f j ≤ hi) (hv : lo ≤ v ∧ v ≤ hi) : ∀ j, lo ≤ k_u1 f k v j ∧ k_u1 f k v j ≤ hi := fun j => by
  unfold k_u1
  split
  · exact hv
  · exact h j
theorem k_ok_car (h : k_OK σ) {p s : Int} (hp : 0 ≤ p ∧ p < 12) (hne : f_few σ s (f_free σ p) ≠ -1) : k_OK (u_car σ p s) := by
  obtain ⟨hI, hS, hC, hA, hH⟩ := h
  obtain ⟨k1, k2, k3, k4⟩ := u_carry (s := s) (p := p) hI hC rfl rfl hne
  have hIc := u_carN_ty hI k3 k4 (f_few σ s (f_free σ p)).toNat (by omega)
  have hM := u_movesN_ty (s := s) (e := g_near (u_few σ s 17) (f_free σ p)) (m := f_few σ s (f_free σ p)) hIc ⟨by omega, by omega⟩ (f_few σ s (f_free σ p)).toNat
  have hT : k_Ty (u_car σ p s) := u_enter_ty hM hp
  have ech : ∀ i, 15 ≤ i → u_car σ p s i = u_few σ s i := fun i hi => by
    unfold u_car u_carE
    rw [u_enter_ne (by omega)]
    unfold u_moves u_movesN
    refine k_fold_inv (P := fun τ : Nat → Nat → Int => τ i = u_few σ s i) ?_ (fun k τ hτ => (u_enter_ne (by omega)).trans ((u_leave_ne (by omega)).trans hτ)) _
    rw [k_up_ne (by omega)]
    unfold u_carN
    rw [k_up_ne (by omega), k_up_ne (by omega)]
  have efar : ∀ i, 18 ≤ i → u_car σ p s i = σ i := fun i hi => u_car_far (Or.inr hi)
  have elow : ∀ i, 10 ≤ i → i < 15 → u_car σ p s i = σ i := fun i h1 h2 => by
    unfold u_car u_carE
    rw [u_enter_ne (by omega)]
    unfold u_moves u_movesN
    refine (k_fold_inv (P := fun τ : Nat → Nat → Int => τ i = u_few σ s i) ?_ (fun k τ hτ => (u_enter_ne (by omega)).trans ((u_leave_ne (by omega)).trans hτ)) _).trans (u_few_far (by omega))
    rw [k_up_ne (by omega)]
    unfold u_carN
    rw [k_up_ne (by omega), k_up_ne (by omega)]
  have hF := u_fewN_ch hI hC s 3 (by decide)
  exact ⟨hT, k_Sc_of hS (elow _ (by decide) (by decide)) (elow _ (by decide) (by decide)) (elow _ (by decide) (by decide)), k_Ch_of (show k_Ch (u_few σ s) from hF) (ech _ (by decide)) (ech _ (by decide)) (ech _ (by decide)), k_Ar_of hA (efar _ (by decide)) (efar _ (by decide)) (efar _ (by decide)) (efar _ (by decide)), k_Hi_of hH (efar _ (by decide)) (efar _ (by decide))⟩
theorem k_OK_perf (h : k_OK σ) {m a b c : Int} (hm : 0 ≤ m ∧ m < 12) (h0 : e_fault σ m a b c = 0) (hch : m = 10 → f_few (u_quit σ a b) c (f_free (u_quit σ a b) a) ≠ -1) : k_OK (u_perf σ m a b c) := by
  have hK := h
  obtain ⟨hI, hS, hC, hA, hH⟩ := h
  obtain ⟨t0, t1, t2, t3, t4, t5, t6, t7, t8, t9, t10, t11⟩ := id hI
  have : m = 0 ∨ m = 1 ∨ m = 2 ∨ m = 3 ∨ m = 4 ∨ m = 5 ∨ m = 6 ∨ m = 7 ∨ m = 8 ∨ m = 9 ∨ m = 10 ∨ m = 11 := by omega
  rcases this with rfl | rfl | rfl | rfl | rfl | rfl | rfl | rfl | rfl | rfl | rfl | rfl
  · have e := e_subject_0 (σ := σ) (z := a) h0
    refine k_OK_pl hK (τ := u_newSubject σ a) ⟨?_, t1, t2, z_rg_u t3 ⟨by omega, by omega⟩, t4, t5, t6, t7, t8, t9, t10, t11⟩ fun i hi => (k_up_ne (by omega)).trans (k_up_ne (by omega))
    show 0 ≤ k_u1 (σ 1) 0 (σ 1 0 + 1) 0 ∧ k_u1 (σ 1) 0 (σ 1 0 + 1) 0 ≤ 7
    rw [show k_u1 (σ 1) 0 (σ 1 0 + 1) 0 = σ 1 0 + 1 from if_pos rfl]
    omega
  · have e := e_blocks_0 (σ := σ) (c := a) h0
    exact k_OK_pl hK (τ := k_up σ 1 (k_u1 (σ 1) 1 a)) ⟨t0, e.1, t2, t3, t4, t5, t6, t7, t8, t9, t10, t11⟩ fun i hi => k_up_ne (by omega)
  · have e := e_open_0 (σ := σ) (s := a) (b := b) h0
    exact k_OK_pl hK (τ := k_up σ 3 (k_u1 (σ 3) a.toNat (z_or (f_open σ a) (z_one b)))) (k_up3_ty hI ⟨z_or_nn _ _, z_or_lt 4 (f_open_r hI a).2 (z_one_lt 4 (by omega) e.1.2.1)⟩) fun i hi => k_up_ne (by omega)
  · exact k_OK_pl hK (τ := k_up σ 3 (k_u1 (σ 3) a.toNat (z_diff (f_open σ a) (z_one b)))) (k_up3_ty hI ⟨z_diff_nn _ _, z_diff_lt 4 (f_open_r hI a).2⟩) fun i hi => k_up_ne (by omega)
  · have e := e_pupil_0 (σ := σ) h0
    refine k_OK_pl hK (τ := u_newPupil σ) ⟨t0, t1, ?_, t3, t4, t5, t6, t7, fun j => ?_, t9, t10, t11⟩ fun i hi => (k_up_ne (by omega)).trans (k_up_ne (by omega))
    · show 0 ≤ k_u1 (σ 1) 2 (σ 1 2 + 1) 2 ∧ k_u1 (σ 1) 2 (σ 1 2 + 1) 2 ≤ 12
      rw [show k_u1 (σ 1) 2 (σ 1 2 + 1) 2 = σ 1 2 + 1 from if_pos rfl]
      omega
    · show -1 ≤ k_u1 (σ 7) (σ 1 2).toNat (-1) j ∧ k_u1 (σ 7) (σ 1 2).toNat (-1) j < 7
      unfold k_u1
      split
      · decide
      · exact t8 j
  · have e := e_wish_0 (σ := σ) (p := a) (s := b) h0
    have e2 := e_reserve_1 e.1
    refine k_OK_pl hK (τ := u_newWish σ a b) ⟨t0, t1, t2, t3, t4, t5, z_rg_u t6 ⟨by have := t6 a.toNat; omega, by omega⟩, fun j => ?_, t8, t9, t10, t11⟩ fun i hi => (k_up_ne (by omega)).trans (k_up_ne (by omega))
    show 0 ≤ k_u1 (σ 6) (a * 3 + σ 5 a.toNat).toNat b j ∧ k_u1 (σ 6) (a * 3 + σ 5 a.toNat).toNat b j < 7
    unfold k_u1
    split
    · omega
    · exact t7 j
  · have e2 := e_reserve_1 (σ := σ) (p := a) (s := b) h0
    refine k_OK_pl hK (τ := k_up σ 7 (k_u1 (σ 7) a.toNat b)) ⟨t0, t1, t2, t3, t4, t5, t6, t7, fun j => ?_, t9, t10, t11⟩ fun i hi => k_up_ne (by omega)
    show -1 ≤ k_u1 (σ 7) a.toNat b j ∧ k_u1 (σ 7) a.toNat b j < 7
    unfold k_u1
    split
    · omega
    · exact t8 j
  · have hp : 0 ≤ a ∧ a < 12 := by
      have h0 : e_enrol σ a = 0 := h0
      unfold e_enrol at h0
      split at h0
      · omega
      · cases h0
    exact ⟨u_give_ty hI hp, u_give_sc hI hS a, k_Ch_of hC (u_give_far a (by decide)) (u_give_far a (by decide)) (u_give_far a (by decide)), k_Ar_of hA (u_give_far a (by decide)) (u_give_far a (by decide)) (u_give_far a (by decide)) (u_give_far a (by decide)), k_Hi_of hH (u_give_far a (by decide)) (u_give_far a (by decide))⟩
  · have h0 : e_join σ a b = 0 := h0
    unfold e_join e_joiner at h0
    by_cases q : (0 ≤ a ∧ a < σ 1 2) ∧ (0 ≤ b ∧ b < σ 1 0)
    · rw [if_pos q] at h0
      by_cases q2 : f_taken σ a b = -1
      · rw [if_pos q2, if_pos rfl] at h0
        unfold e_seek at h0
        by_cases q3 : f_few σ b (f_free σ a) = -1
        · rw [if_pos q3] at h0
          cases h0
        · exact k_ok_car hK (by omega) q3
      · rw [if_neg q2, if_neg (by decide)] at h0
        cases h0
    · rw [if_neg q, if_neg (by decide)] at h0
      cases h0
  · exact k_OK_pl hK (τ := u_quit σ a b) (u_leave_ty hI) fun i hi => u_leave_ne (by omega)
  · have hp : 0 ≤ a ∧ a < 12 := by
      have h0 : e_change σ a b c = 0 := h0
      unfold e_change e_chg at h0
      by_cases q : ((0 ≤ a ∧ a < σ 1 2) ∧ (0 ≤ b ∧ b < σ 1 0)) ∧ (0 ≤ c ∧ c < σ 1 0)
      · omega
      · rw [if_neg q, if_neg (by decide)] at h0
        cases h0
    exact k_ok_car (k_OK_pl hK (τ := u_quit σ a b) (u_leave_ty hI) fun i hi => u_leave_ne (by omega)) hp (hch rfl)
  · have hAr := u_abest_ar hI hA
    have e3 : ∀ i, i ≠ 3 → u_arr σ i = u_abest σ i := fun i hi => k_up_ne hi
    have e10 : ∀ i, (10 ≤ i ∧ i < 18) ∨ 23 ≤ i → u_arr σ i = σ i := fun i hi => by
      rw [e3 i (by omega)]
      unfold u_abest g_putA u_comm
      rw [k_up_ne (by omega), k_up_ne (by omega), k_up_ne (by omega), k_up_ne (by omega), k_up_ne (by omega)]
    exact ⟨u_arrN_ty hI hA _, k_Sc_of hS (e10 _ (by decide)) (e10 _ (by decide)) (e10 _ (by decide)), k_Ch_of hC (e10 _ (by decide)) (e10 _ (by decide)) (e10 _ (by decide)), k_Ar_of hAr (e3 _ (by decide)) (e3 _ (by decide)) (e3 _ (by decide)) (e3 _ (by decide)), k_Hi_of hH (e10 _ (by decide)) (e10 _ (by decide))⟩
theorem k_OK_make (h : k_OK σ) {m a b c : Int} (hm : 0 ≤ m ∧ m < 12) (hch : e_fault σ m a b c = 0 → k_chg σ m a b c) : k_OK (u_make σ m a b c) := by
  have hF := k_OK_fault h m a b c
  unfold u_make
  by_cases q : e_fault σ m a b c = 0
  · rw [if_pos q]
    have hpl : k_PlEq (u_kept σ m a b c) σ := (u_keepB_pl hF.2.2.2.2.2.1).trans (u_fault_pl m a b c)
    exact k_OK_perf (k_OK_keep hF) hm ((hpl.fault m a b c).trans q) (hch q)
  · rw [if_neg q]
    exact hF
theorem k_OK_withdraw (h : k_OK σ) {p : Int} : k_OK (if e_withdraw σ p = 0 then u_drop (u_kep σ) p else σ) := by
  by_cases q : e_withdraw σ p = 0
  · rw [if_pos q]
    have hK : k_OK (u_kep σ) := k_OK_keep h
    exact k_OK_pl hK (u_dropN_ty hK.1 p _) fun i hi => u_dropN_ne p _ (by omega)
  · rw [if_neg q]
    exact h
end K_R34
