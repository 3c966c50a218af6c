/-! ===== A WHOLE CHANGE by its number ===== -/
section K_R31
variable {σ ρ τ : Nat → Nat → Int} {r : Nat → Int}
theorem u_few_far {s : Int} {i : Nat} (h : i < 15 ∨ 18 ≤ i) : u_few σ s i = σ i := by
  unfold u_few u_fewN u_lookN
  rw [k_up_ne (by omega), k_up_ne (by omega), k_up_ne (by omega), k_up_ne (by omega)]
theorem u_car_far {p s : Int} {i : Nat} (h : i = 0 ∨ 18 ≤ i) : u_car σ p s i = σ i := by
  unfold u_car u_carE
  rw [u_enter_ne (by omega)]
  unfold u_moves u_movesN
  refine (k_fold_inv (P := fun τ : Nat → Nat → Int => τ i = u_few σ s i) ?_ (fun k τ hτ => (u_enter_ne (by omega)).trans ((u_leave_ne (by omega)).trans hτ)) _).trans (u_few_far (by omega))
  rw [k_up_ne (by omega)]
  unfold u_carN
  rw [k_up_ne (by omega), k_up_ne (by omega)]
theorem u_arr_far {i : Nat} (h : i = 0 ∨ 23 ≤ i) : u_arr σ i = σ i := by
  unfold u_arr u_arrN
  rw [k_up_ne (by omega)]
  unfold u_abest g_putA u_comm
  rw [k_up_ne (by omega), k_up_ne (by omega), k_up_ne (by omega), k_up_ne (by omega), k_up_ne (by omega)]
theorem u_perf_far {m : Int} (a b c : Int) (hm : 0 ≤ m ∧ m < 12) {i : Nat} (h : i = 0 ∨ 23 ≤ i) : u_perf σ m a b c i = σ i := by
  have : m = 0 ∨ m = 1 ∨ m = 2 ∨ m = 3 ∨ m = 4 ∨ m = 5 ∨ m = 6 ∨ m = 7 ∨ m = 8 ∨ m = 9 ∨ m = 10 ∨ m = 11 := by omega
  rcases this with rfl | rfl | rfl | rfl | rfl | rfl | rfl | rfl | rfl | rfl | rfl | rfl
  · show u_newSubject σ a i = σ i
    unfold u_newSubject
    rw [k_up_ne (by omega), k_up_ne (by omega)]
  · show k_up σ 1 _ i = σ i
    exact k_up_ne (by omega)
  · show k_up σ 3 _ i = σ i
    exact k_up_ne (by omega)
  · show k_up σ 3 _ i = σ i
    exact k_up_ne (by omega)
  · show u_newPupil σ i = σ i
    unfold u_newPupil
    rw [k_up_ne (by omega), k_up_ne (by omega)]
  · show u_newWish σ a b i = σ i
    unfold u_newWish
    rw [k_up_ne (by omega), k_up_ne (by omega)]
  · show k_up σ 7 _ i = σ i
    exact k_up_ne (by omega)
  · show u_give σ a i = σ i
    exact u_give_far _ (by omega)
  · show u_car σ a b i = σ i
    exact u_car_far (by omega)
  · show u_quit σ a b i = σ i
    exact u_leave_ne (by omega)
  · show u_car (u_quit σ a b) a c i = σ i
    exact (u_car_far (by omega)).trans (u_leave_ne (by omega))
  · show u_arr σ i = σ i
    exact u_arr_far h
theorem u_keepB_cong {i : Nat} (h1 : ∀ j, j < 10 → τ j = σ j) (h2 : ∀ j, 24 ≤ j → j < 98 → τ j = σ j) (hn : 0 ≤ σ 24 1 ∧ σ 24 1 < 8) (hi : 24 ≤ i ∧ i < 98) : u_keepB τ 1 i = u_keepB σ 1 i := by
  have e24 := h2 24 (by decide) (by decide)
  unfold u_keepB
  rw [e24]
  by_cases q : i = 24
  · subst q
    rw [k_up_same, k_up_same]
  · rw [k_up_ne q, k_up_ne q]
    unfold u_copy
    by_cases w : i = 26 + 9 * (σ 24 1).toNat
    · rw [if_pos w, if_pos w, h1 1 (by decide), h2 (26 + 9 * (σ 24 1).toNat) (by omega) (by omega)]
    · rw [if_neg w, if_neg w]
      by_cases v : 26 + 9 * (σ 24 1).toNat < i ∧ i < 26 + 9 * (σ 24 1).toNat + 9
      · rw [if_pos v, if_pos v, h1 _ (by omega)]
      · rw [if_neg v, if_neg v, h2 i hi.1 hi.2]
end K_R31
