/-! ===== what is asked, second part: a class's pupils, the mean, clashes ===== -/
section K_R3
variable {σ ρ : Nat → Nat → Int} {r : Nat → Int}
theorem z_sum_add (g h : Nat → Int) : ∀ n : Nat, z_sum n (fun i => g i + h i) = z_sum n g + z_sum n h
  | 0 => rfl
  | n + 1 => by
    rw [z_sum_s, z_sum_s, z_sum_s, z_sum_add g h n]
    omega
theorem z_sum_0 : ∀ n : Nat, z_sum n (fun _ => 0) = 0
  | 0 => rfl
  | n + 1 => by rw [z_sum_s, z_sum_0 n]; rfl
theorem z_sum_swap (g : Nat → Nat → Int) (m : Nat) : ∀ n : Nat, z_sum n (fun i => z_sum m (g i)) = z_sum m (fun j => z_sum n (fun i => g i j))
  | 0 => by
    show 0 = z_sum m (fun _ => 0)
    rw [z_sum_0]
  | n + 1 => by
    rw [z_sum_s, z_sum_swap g m n, ← z_sum_add]
    exact z_sum_cong m fun j _ => rfl
theorem z_cntn_sum (x : Int) (n : Nat) : z_cntn x n = z_sum n (fun i => zb (z_bit x (i : Int) = true)) := rfl
/-- a member with so many before it -/
theorem z_memb_ex (x l : Int) : ∀ n : Nat, (∃ j : Nat, j < n ∧ (z_bit x (j : Int) = true ∧ z_cntn x j = l)) ↔ 0 ≤ l ∧ l < z_cntn x n
  | 0 => ⟨fun ⟨j, h, _⟩ => absurd h (Nat.not_lt_zero j), fun h => by
      have : l < 0 := h.2
      omega⟩
  | n + 1 => by
    have ih := z_memb_ex x l n
    have hr := z_cntn_r x n
    rw [z_cntn_s]
    constructor
    · rintro ⟨j, h1, h2, h3⟩
      by_cases a : j = n
      · subst a
        rw [zb_t h2]
        omega
      · have := ih.mp ⟨j, by omega, h2, h3⟩
        have := (zb_r (z_bit x (n : Int) = true)).1
        omega
    · rintro ⟨h1, h2⟩
      by_cases a : l < z_cntn x n
      · obtain ⟨j, b1, b2⟩ := ih.mpr ⟨h1, a⟩
        exact ⟨j, by omega, b2⟩
      · by_cases c : z_bit x (n : Int) = true
        · rw [zb_t c] at h2
          exact ⟨n, by omega, c, by omega⟩
        · rw [zb_f c] at h2
          omega
theorem q_lessAll (hR : k_P1 r σ) (hI : k_Ty σ) : f_lessAll σ = z_sum (σ 1 2).toNat (fun p => m_classesOf r (p : Int)) := by
  have hP := hI.2.2.1
  have hB := hI.2.1
  have e : f_lessAll σ = z_sum (σ 1 1).toNat (fun b => z_cnt (f_busy σ (b : Int))) := rfl
  have e2 : ∀ b : Nat, z_cnt (f_busy σ (b : Int)) = z_sum (σ 1 2).toNat (fun p => zb (z_bit (f_busy σ (b : Int)) (p : Int) = true)) := fun b => z_sum_more 16 (by omega) fun j h1 h2 => zb_f fun z => by
    have := (q_busyX hR (by omega) z).1
    omega
  rw [e, z_sum_cong _ fun b _ => e2 b, z_sum_swap]
  refine z_sum_cong _ fun p hp => ?_
  exact q_lessons hR hI (p := (p : Int)) ⟨by omega, by omega⟩
end K_R3
