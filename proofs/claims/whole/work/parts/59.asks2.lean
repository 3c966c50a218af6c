/-! ===== what is asked, second part: a class's pupils, the mean, clashes ===== -/
section K_R3
variable {σ ρ : Nat → Nat → Int} {r : Nat → Int}
theorem z_sum_add (g h : Nat → Int) : ∀ n : Nat, z_sum n (fun i => g i + h i) = z_sum n g + z_sum n h
  | 0 => rfl
  | n + 1 => by
    rw [z_sum_s, z_sum_s, z_sum_s, z_sum_add g h n]
    omega
theorem z_sum_0 : ∀ n : Nat, z_sum n (fun _ => 0) = 0
  | 0 => rfl
  | n + 1 => by rw [z_sum_s, z_sum_0 n]; rfl
theorem z_sum_swap (g : Nat → Nat → Int) (m : Nat) : ∀ n : Nat, z_sum n (fun i => z_sum m (g i)) = z_sum m (fun j => z_sum n (fun i => g i j))
  | 0 => by
    show 0 = z_sum m (fun _ => 0)
    rw [z_sum_0]
  | n + 1 => by
    rw [z_sum_s, z_sum_swap g m n, ← z_sum_add]
    exact z_sum_cong m fun j _ => rfl
theorem z_sum_delta (g : Nat → Int) (w : Nat) : ∀ n : Nat, z_sum n (fun s => if s = w then g s else 0) = if w < n then g w else 0
  | 0 => rfl
  | n + 1 => by
    rw [z_sum_s, z_sum_delta g w n]
    by_cases a : n = w
    · subst a
      rw [if_neg (by omega), if_pos rfl, if_pos (by omega), Int.zero_add]
    · rw [if_neg a, Int.add_zero]
      by_cases b : w < n
      · rw [if_pos b, if_pos (by omega)]
      · rw [if_neg b, if_neg (by omega)]
theorem z_sum_mul0 {c : Prop} [Decidable c] (g : Nat → Int) (n : Nat) : z_sum n (fun i => if c then g i else 0) = if c then z_sum n g else 0 := by
  by_cases a : c
  · rw [if_pos a]
    exact z_sum_cong n fun i _ => if_pos a
  · rw [if_neg a]
    exact (z_sum_cong n fun i _ => if_neg a).trans (z_sum_0 n)
theorem z_cntn_sum (x : Int) (n : Nat) : z_cntn x n = z_sum n (fun i => zb (z_bit x (i : Int) = true)) := rfl
/-- a member with so many before it -/
theorem z_memb_ex (x l : Int) : ∀ n : Nat, (∃ j : Nat, j < n ∧ (z_bit x (j : Int) = true ∧ z_cntn x j = l)) ↔ 0 ≤ l ∧ l < z_cntn x n
  | 0 => ⟨fun ⟨j, h, _⟩ => absurd h (Nat.not_lt_zero j), fun h => by
      have : l < 0 := h.2
      omega⟩
  | n + 1 => by
    have ih := z_memb_ex x l n
    have hr := z_cntn_r x n
    rw [z_cntn_s]
    constructor
    · rintro ⟨j, h1, h2, h3⟩
      by_cases a : j = n
      · subst a
        rw [zb_t h2]
        omega
      · have := ih.mp ⟨j, by omega, h2, h3⟩
        have := (zb_r (z_bit x (n : Int) = true)).1
        omega
    · rintro ⟨h1, h2⟩
      by_cases a : l < z_cntn x n
      · obtain ⟨j, b1, b2⟩ := ih.mpr ⟨h1, a⟩
        exact ⟨j, by omega, b2⟩
      · by_cases c : z_bit x (n : Int) = true
        · rw [zb_t c] at h2
          exact ⟨n, by omega, c, by omega⟩
        · rw [zb_f c] at h2
          omega
theorem q_a_pupilInClass (hR : k_P1 (ρ 124) σ) (hI : k_Ty σ) {s b i : Int} : k_ag [x_io, x_ns] (if (0 ≤ s ∧ s < σ 1 0) ∧ (0 ≤ b ∧ b < σ 1 1) then (if 0 ≤ i ∧ i < z_cnt (f_roster σ s b) then .inl (some (.int (iI (g_memb (f_roster σ s b) i)))) else .inr x_ns) else .inr x_io) (m_pupilInClass ρ s b i).1 ((m_pupilInClass ρ s b i).2 123 7) := by
  obtain ⟨e0, e1, e2⟩ := hR.2.1.1
  have hS := hI.1
  have hB := hI.2.1
  have hP := hI.2.2.1
  unfold m_pupilInClass
  rw [e0, e1, e2]
  by_cases hs : 0 ≤ s ∧ s < σ 1 0
  · by_cases hb : 0 ≤ b ∧ b < σ 1 1
    · rw [if_pos ⟨hs, hb⟩, if_pos hs, if_pos hb]
      generalize hx : f_roster σ s b = x
      have hbit : ∀ p : Nat, (p : Int) < σ 1 2 → (z_bit x (p : Int) = true ↔ ρ 124 (105 + 4 * (p : Int) + b).toNat = s) := fun p hp => hx ▸ q_bit hR ⟨by omega, hp⟩ ⟨by omega, by omega⟩ ⟨by omega, by omega⟩
      have hout : ∀ p : Nat, σ 1 2 ≤ (p : Int) → z_bit x (p : Int) = false := fun p hp => by
        cases q : z_bit x (p : Int) with
        | false => rfl
        | true =>
          rw [← hx] at q
          have := (q_bitS hR (by omega) q).2.1
          omega
      have hloop : ∀ n j : Nat, j + n = (σ 1 2).toNat → (∀ k, k < j → ¬ (z_bit x (k : Int) = true ∧ z_cntn x k = i)) → k_els (r_pupilInClass_28 ρ s b i) (k_for (b_pupilInClass_28 ρ s b i) n j (i - z_cntn x j)) = if z_first (σ 1 2).toNat (fun k => z_bit x (k : Int) && decide (z_cntn x k = i)) = -1 then (0, k_up ρ 123 (k_u1 (ρ 123) 7 2)) else (z_first (σ 1 2).toNat (fun k => z_bit x (k : Int) && decide (z_cntn x k = i)), k_up ρ 123 (k_u1 (ρ 123) 7 0)) := by
        intro n
        induction n with
        | zero =>
          intro j hj hn
          rw [if_pos (z_first_none _ fun k hk => ?_)]
          · rfl
          · have := hn k (by omega)
            cases q : z_bit x (k : Int) with
            | false => rfl
            | true => exact decide_eq_false fun z => this ⟨q, z⟩
        | succ n ih =>
          intro j hj hn
          show k_els _ (k_cn2 _ (b_pupilInClass_28 ρ s b i j (i - z_cntn x j))) = _
          unfold b_pupilInClass_28
          by_cases q : z_bit x (j : Int) = true
          · rw [if_pos ((hbit j (by omega)).mp q)]
            by_cases w : i - z_cntn x j = 0
            · rw [if_pos w]
              have h2 := z_first_some (P := fun k : Nat => z_bit x (k : Int) && decide (z_cntn x k = i)) (i := j) (by rw [q]; exact decide_eq_true (by omega)) (fun k hk => by
                have := hn k hk
                cases q2 : z_bit x (k : Int) with
                | false => rfl
                | true => exact decide_eq_false fun z => this ⟨q2, z⟩) (σ 1 2).toNat (by omega)
              rw [h2, if_neg (by omega)]
              rfl
            · rw [if_neg w]
              have e : i - z_cntn x j + (-1) = i - z_cntn x (j + 1) := by
                rw [z_cntn_s, zb_t q]
                omega
              rw [e]
              exact ih (j + 1) (by omega) fun k hk => if z : k = j then z ▸ fun y => w (by omega) else hn k (by omega)
          · rw [if_neg fun z => q ((hbit j (by omega)).mpr z)]
            have e : i - z_cntn x j = i - z_cntn x (j + 1) := by
              rw [z_cntn_s, zb_f q]
              omega
            rw [e]
            exact ih (j + 1) (by omega) fun k hk => if z : k = j then z ▸ fun y => q y.1 else hn k (by omega)
      have h0 := hloop (σ 1 2).toNat 0 (by omega) fun k hk => absurd hk (Nat.not_lt_zero k)
      have ez : i - z_cntn x 0 = i := by
        show i - 0 = i
        omega
      rw [ez] at h0
      rw [h0]
      have hg : g_memb x i = z_first (σ 1 2).toNat (fun k => z_bit x (k : Int) && decide (z_cntn x k = i)) := z_first_more (by omega) fun j h1 h2 => by
        rw [hout j (by omega)]
        rfl
      have hc : z_cnt x = z_cntn x 16 := rfl
      have hex := z_memb_ex x i 16
      rw [hc, hg]
      have hsp := z_first_spec (P := fun k : Nat => z_bit x (k : Int) && decide (z_cntn x k = i)) (σ 1 2).toNat
      generalize z_first (σ 1 2).toNat (fun k => z_bit x (k : Int) && decide (z_cntn x k = i)) = Z at hsp ⊢
      rcases hsp with ⟨g1, g2⟩ | ⟨k, g1, g2, g3, -⟩
      · rw [if_pos g1]
        have hno : ¬ (0 ≤ i ∧ i < z_cntn x 16) := by
          intro z
          obtain ⟨j, j1, j2, j3⟩ := hex.mpr z
          by_cases v : (j : Int) < σ 1 2
          · have := g2 j (by omega)
            rw [j2, decide_eq_true j3] at this
            cases this
          · rw [hout j (by omega)] at j2
            cases j2
        rw [if_neg hno]
        exact k_ag_x x_m2 (w_code2 (by decide)).symm
      · rw [Bool.and_eq_true] at g3
        have hyes := hex.mp ⟨k, by omega, g3.1, of_decide_eq_true g3.2⟩
        rw [if_pos hyes, if_neg (show ¬ Z = -1 by omega)]
        exact k_ag_v (by show _ ≤ Z ∧ Z < _; omega) rfl
    · rw [if_neg (fun z => hb z.2), if_pos hs, if_neg hb]
      exact k_ag_x x_m1 rfl
  · rw [if_neg (fun z => hs z.1), if_neg hs]
    exact k_ag_x x_m1 rfl
/-- the mean -/
theorem q_openCl (hR : k_P1 (ρ 124) σ) (hI : k_Ty σ) : f_openCl σ = k_it (b_meanClassSize_6 ρ) (ρ 124 0).toNat 0 0 := by
  have e0 := hR.2.1.1.1
  have e : f_openCl σ = z_sum (σ 1 0).toNat (fun s => z_cnt (f_open σ (s : Int))) := rfl
  rw [e, e0, k_it_sum (f := b_meanClassSize_6 ρ) (g := fun s : Nat => m_openOf (ρ 124) (s : Int)) (fun i x => rfl)]
  exact z_sum_cong _ fun s hs => q_openOf hR hI ⟨by omega, by omega⟩
theorem q_lessAll (hR : k_P1 r σ) (hI : k_Ty σ) : f_lessAll σ = z_sum (σ 1 2).toNat (fun p => m_classesOf r (p : Int)) := by
  have hP := hI.2.2.1
  have hB := hI.2.1
  have e : f_lessAll σ = z_sum (σ 1 1).toNat (fun b => z_cnt (f_busy σ (b : Int))) := rfl
  have e2 : ∀ b : Nat, z_cnt (f_busy σ (b : Int)) = z_sum (σ 1 2).toNat (fun p => zb (z_bit (f_busy σ (b : Int)) (p : Int) = true)) := fun b => z_sum_more 16 (by omega) fun j h1 h2 => zb_f fun z => by
    have := (q_busyX hR (by omega) z).1
    omega
  rw [e, z_sum_cong _ fun b _ => e2 b, z_sum_swap]
  refine z_sum_cong _ fun p hp => ?_
  exact q_lessons hR hI (p := (p : Int)) ⟨by omega, by omega⟩
theorem q_lessAllM (hR : k_P1 (ρ 124) σ) (hI : k_Ty σ) (x6 : Int) : f_lessAll σ = k_it (b_meanClassSize_32 ρ x6) (ρ 124 2).toNat 0 0 := by
  have e2 := hR.2.1.1.2.2
  rw [q_lessAll hR hI, e2, k_it_sum (f := b_meanClassSize_32 ρ x6) (g := fun p : Nat => m_classesOf (ρ 124) (p : Int)) (fun i x => rfl)]
theorem q_a_mean (hR : k_P1 (ρ 124) σ) (hI : k_Ty σ) : (f_openCl σ ≤ 0 ∧ (m_meanClassSize ρ).2 123 7 = 1) ∨ (¬ f_openCl σ ≤ 0 ∧ (m_meanClassSize ρ).2 123 7 = 0 ∧ (m_meanClassSize ρ).1 = f_mean (f_lessAll σ) (f_openCl σ)) := by
  have h6 := q_openCl hR hI
  have h0 := (f_openClN_r σ (σ 1 0).toNat).1
  change 0 ≤ f_openCl σ at h0
  have h32 := q_lessAllM hR hI (f_openCl σ)
  unfold m_meanClassSize r_meanClassSize_6 r_meanClassSize_32
  rw [← h6, ← h32]
  by_cases a : f_openCl σ = 0
  · rw [if_pos a, if_pos a]
    exact Or.inl ⟨by omega, rfl⟩
  · rw [if_neg a, if_neg a]
    exact Or.inr ⟨by omega, rfl, rfl⟩
end K_R3
