/-! ===== best value by sets, served by counting: alike ===== -/
section K_R23
variable {σ ρ τ : Nat → Nat → Int} {r : Nat → Int}
def g_rev (v : Int) : Int := z_or (z_or (z_shr v 2) (z_and v 2)) (z_shl (z_and v 1) 2)
theorem g_rev_bit : ∀ v : Fin 8, ∀ i : Fin 3, z_bit (g_rev ((v.val : Nat) : Int)) ((i.val : Nat) : Int) = z_bit ((v.val : Nat) : Int) (2 - ((i.val : Nat) : Int)) := by decide +kernel
theorem g_rev_in : ∀ v : Fin 8, ∀ m : Fin 4, (z_diff (g_rev ((v.val : Nat) : Int)) (z_one ((m.val : Nat) : Int) - 1) = 0) ↔ ∀ i : Fin 3, m.val ≤ i.val → z_bit (g_rev ((v.val : Nat) : Int)) ((i.val : Nat) : Int) = false := by decide +kernel
theorem q_suf (hR : k_P1 r σ) (hI : k_Ty σ) {p : Int} (hp : 0 ≤ p ∧ p < σ 1 2) (v : Fin 8) : f_suf (u_roomy σ p 11) ((v.val : Nat) : Int) ≠ 0 ↔ z_diff (g_rev ((v.val : Nat) : Int)) (z_one (r (45 + p).toNat) - 1) = 0 ∧ m_canPlace r p (g_rev ((v.val : Nat) : Int)) 1 = true := by
  have hm := (hR.2.2.1.1 p hp.1 hp.2).1
  have h5 := hI.2.2.2.2.2.2.1 p.toNat
  obtain ⟨m, hm2⟩ : ∃ m : Nat, r (45 + p).toNat = (m : Int) := ⟨(r (45 + p).toNat).toNat, by omega⟩
  have hm4 : m < 4 := by omega
  have hin := g_rev_in v ⟨m, hm4⟩
  have hbit := g_rev_bit v
  rw [q_canPlace (us := u_roomy σ p 11) hR.1.2.1 (by omega) (fun i hi b hb => by
    rw [if_neg (show ¬ (1 : Int) = 0 by decide), q_use hR hI hp (by omega) (b := (b : Int)) ⟨by omega, by omega⟩]
    unfold g_subj
    rw [if_neg (show ¬ i = 3 by omega)]
    have w := q_wish hR hI hp (k := (i : Int)) ⟨by omega, by omega⟩
    exact ⟨fun h => h.2.2, fun h => ⟨Or.inr hi, by omega, h⟩⟩), hm2, Int.toNat_natCast]
  rw [show z_diff (g_rev ((v.val : Nat) : Int)) (z_one (m : Int) - 1) = 0 ↔ _ from hin]
  have e3 : f_suf (u_roomy σ p 11) ((v.val : Nat) : Int) = g_ways (u_roomy σ p 11) (g_rev ((v.val : Nat) : Int)) 3 := by
    unfold f_suf f_sufN g_ways
    refine k_fold_cong 3 fun i hi x => ?_
    rw [hbit ⟨i, hi⟩]
  rw [e3]
  have hz : ∀ i : Nat, m ≤ i → i < 3 → u_roomy σ p 11 i = 0 := fun i h1 h2 => by
    rw [u_roomy11 σ p (by omega), if_neg (by omega)]
    unfold f_useR
    rw [if_neg (by omega)]
  generalize g_rev ((v.val : Nat) : Int) = set at hin ⊢
  by_cases q : ∀ i : Fin 3, m ≤ i.val → z_bit set ((i.val : Nat) : Int) = false
  · have e : g_ways (u_roomy σ p 11) set 3 = g_ways (u_roomy σ p 11) set m := k_fold_stop _ 1 m 3 (by omega) fun i y h1 h2 => if_neg (by rw [q ⟨i, h2⟩ h1]; decide)
    rw [e]
    exact ⟨fun h => ⟨q, h⟩, fun h => h.2⟩
  · refine ⟨fun h => ?_, fun h => absurd h.1 q⟩
    exfalso
    have : ∃ i : Nat, i < 3 ∧ m ≤ i ∧ z_bit set (i : Int) = true := by
      refine Classical.byContradiction fun z => q fun i hi => ?_
      cases w : z_bit set ((i.val : Nat) : Int) with
      | false => rfl
      | true => exact absurd ⟨i.val, i.isLt, hi, w⟩ z
    obtain ⟨i, i1, i2, i3⟩ := this
    have hzero : ∀ n : Nat, g_ways (u_roomy σ p 11) set (i + 1 + n) = 0 := fun n => by
      induction n with
      | zero =>
        show (if z_bit set (i : Int) = true then f_swo (g_ways (u_roomy σ p 11) set i) (u_roomy σ p 11 i) else _) = 0
        rw [if_pos i3, hz i i2 i1]
        exact z_swo_no _
      | succ n ih =>
        show (if z_bit set ((i + 1 + n : Nat) : Int) = true then f_swo (g_ways (u_roomy σ p 11) set (i + 1 + n)) (u_roomy σ p 11 (i + 1 + n)) else g_ways (u_roomy σ p 11) set (i + 1 + n)) = 0
        rw [ih]
        split
        · exact z_swo_0 _
        · rfl
    have := hzero (3 - (i + 1))
    rw [show i + 1 + (3 - (i + 1)) = 3 by omega] at this
    exact h this
theorem z_blkWN (us : Nat → Int) (v u : Int) : ∀ n : Nat, z_bit (f_blkWN us v n) u = true ↔ ∃ i : Nat, i < n ∧ z_bit v (i : Int) = true ∧ z_bit (us i) u = true
  | 0 => by
    show z_bit 0 u = true ↔ _
    rw [z_bit_0]
    exact ⟨fun h => (by cases h), fun ⟨i, h, _⟩ => absurd h (Nat.not_lt_zero i)⟩
  | n + 1 => by
    have ih := z_blkWN us v u n
    show z_bit (if z_bit v (n : Int) = true then z_or (f_blkWN us v n) (us n) else f_blkWN us v n) u = true ↔ _
    by_cases q : z_bit v (n : Int) = true
    · rw [if_pos q, z_bit_or, Bool.or_eq_true, ih]
      constructor
      · rintro (⟨i, h1, h2⟩ | h)
        · exact ⟨i, by omega, h2⟩
        · exact ⟨n, by omega, q, h⟩
      · rintro ⟨i, h1, h2, h3⟩
        by_cases e : i = n
        · subst e
          exact Or.inr h3
        · exact Or.inl ⟨i, by omega, h2, h3⟩
    · rw [if_neg q, ih]
      constructor
      · rintro ⟨i, h1, h2⟩
        exact ⟨i, by omega, h2⟩
      · rintro ⟨i, h1, h2, h3⟩
        by_cases e : i = n
        · subst e
          exact absurd h2 q
        · exact ⟨i, by omega, h2, h3⟩
theorem q_hall (hR : k_P1 (ρ 124) σ) (hI : k_Ty σ) (hS : k_Sc σ) {p : Int} (hp : 0 ≤ p ∧ p < σ 1 2) : ∃ b : Bool, (f_hall (u_open σ p 3 11) (σ 5 p.toNat) ↔ b = true) ∧ m_canServeByCounting ρ p = (b, k_up ρ 123 (k_u1 (ρ 123) 7 0)) := by
  have hm := (hR.2.2.1.1 p hp.1 hp.2).1
  have h5 := hI.2.2.2.2.2.2.1 p.toNat
  have hr1 := hR.1.2.1
  have hN : (z_one (z_max 0 (σ 5 p.toNat)) - 1).toNat = (z_one (σ 5 p.toNat) - 1).toNat := by
    have : z_max 0 (σ 5 p.toNat) = σ 5 p.toNat := by
      unfold z_max
      split <;> omega
    rw [this]
  have hN8 : (z_one (σ 5 p.toNat) - 1).toNat ≤ 7 := by
    have : σ 5 p.toNat = 0 ∨ σ 5 p.toNat = 1 ∨ σ 5 p.toNat = 2 ∨ σ 5 p.toNat = 3 := by omega
    rcases this with e | e | e | e <;> rw [e] <;> decide
  -- one set
  have hone : ∀ j : Nat, j < (z_one (σ 5 p.toNat) - 1).toNat → b_canServeByCounting_32 ρ p j 1 = if z_cnt (f_blkW (u_open σ p 3 11) (1 + (j : Int))) < z_cnt (1 + (j : Int)) then .inr 0 else .inr 1 := fun j hj => by
    unfold b_canServeByCounting_32 r_canServeByCounting_60 r_canServeByCounting_86
    rw [if_neg (show ¬ (1 : Int) = 0 by decide)]
    have e60 : k_it (b_canServeByCounting_60 ρ p j 1) 3 0 0 = z_cnt (1 + (j : Int)) := by
      have : j = 0 ∨ j = 1 ∨ j = 2 ∨ j = 3 ∨ j = 4 ∨ j = 5 ∨ j = 6 := by omega
      rcases this with rfl | rfl | rfl | rfl | rfl | rfl | rfl <;> rfl
    have e103 : ∀ (x60 : Int) (b : Nat) (x : Int) (n : Nat), (k_it (b_canServeByCounting_103 ρ p j 1 x60 b x) n 0 0 = 0 ∨ k_it (b_canServeByCounting_103 ρ p j 1 x60 b x) n 0 0 = 1) ∧ (k_it (b_canServeByCounting_103 ρ p j 1 x60 b x) n 0 0 = 1 ↔ ∃ i : Nat, i < n ∧ z_bit (1 + (j : Int)) (i : Int) = true ∧ ρ 124 (17 + 4 * (ρ 124 (57 + 3 * p + (i : Int)).toNat) + (b : Int)).toNat = 1) := fun x60 b x n => by
      induction n with
      | zero => exact ⟨Or.inl rfl, fun h => absurd (show (0 : Int) = 1 from h) (by decide), fun ⟨i, h, _⟩ => absurd h (Nat.not_lt_zero i)⟩
      | succ n ih =>
        rw [k_it_succ, Nat.zero_add]
        generalize k_it (b_canServeByCounting_103 ρ p j 1 x60 b x) n 0 0 = y at ih ⊢
        obtain ⟨i1, i2⟩ := ih
        unfold b_canServeByCounting_103
        by_cases q : y = 0
        · rw [if_pos q]
          have hno : ¬ ∃ i : Nat, i < n ∧ z_bit (1 + (j : Int)) (i : Int) = true ∧ ρ 124 (17 + 4 * (ρ 124 (57 + 3 * p + (i : Int)).toNat) + (b : Int)).toNat = 1 := fun z => by
            have := i2.mpr z
            omega
          by_cases w1 : z_bit (1 + (j : Int)) (n : Int) = true
          · rw [if_pos ((z_bit_shr _ _).mpr w1)]
            by_cases w2 : ρ 124 (17 + 4 * (ρ 124 (57 + 3 * p + (n : Int)).toNat) + (b : Int)).toNat = 1
            · rw [if_pos w2]
              exact ⟨Or.inr rfl, fun _ => ⟨n, by omega, w1, w2⟩, fun _ => rfl⟩
            · rw [if_neg w2]
              refine ⟨Or.inl rfl, fun h => absurd h (by decide), fun ⟨i, h1, h2, h3⟩ => ?_⟩
              by_cases e : i = n
              · subst e
                exact absurd h3 w2
              · exact absurd ⟨i, by omega, h2, h3⟩ hno
          · rw [if_neg fun z => w1 ((z_bit_shr _ _).mp z)]
            refine ⟨Or.inl rfl, fun h => absurd h (by decide), fun ⟨i, h1, h2, h3⟩ => ?_⟩
            by_cases e : i = n
            · subst e
              exact absurd h2 w1
            · exact absurd ⟨i, by omega, h2, h3⟩ hno
        · rw [if_neg q]
          obtain ⟨i, h1, h2⟩ := i2.mp (i1.resolve_left q)
          exact ⟨Or.inr rfl, fun _ => ⟨i, by omega, h2⟩, fun _ => rfl⟩
    have e86 : ∀ x60 : Int, k_it (b_canServeByCounting_86 ρ p j 1 x60) ((ρ 124 1).toNat) 0 0 = z_cnt (f_blkW (u_open σ p 3 11) (1 + (j : Int))) := fun x60 => by
      rw [k_it_sum (f := b_canServeByCounting_86 ρ p j 1 x60) (g := fun b => if k_it (b_canServeByCounting_103 ρ p j 1 x60 b 0) (ρ 124 (45 + p).toNat).toNat 0 0 = 0 then 0 else 1) (fun b x => ?_)]
      · rw [z_cnt_sum, z_sum_more (n := (ρ 124 1).toNat) 16 (by omega) fun b h1 h2 => zb_f fun z => ?_]
        · refine z_sum_cong _ fun b hb => ?_
          obtain ⟨g1, g2⟩ := e103 x60 b 0 (ρ 124 (45 + p).toNat).toNat
          by_cases q : z_bit (f_blkW (u_open σ p 3 11) (1 + (j : Int))) (b : Int) = true
          · rw [zb_t q, if_neg]
            intro z
            obtain ⟨i, i1, i2, i3⟩ := (z_blkWN _ _ _ 3).mp q
            by_cases hi : (i : Int) < ρ 124 (45 + p).toNat
            · have := g2.mpr ⟨i, by omega, i2, ((q_opens hR hI hp hi (b := b) (by omega)).mp i3).2⟩
              omega
            · rw [u_open11 σ p i1, if_neg (by omega), z_bit_0] at i3
              cases i3
          · rw [zb_f q, if_pos]
            refine g1.resolve_right fun z => q ?_
            obtain ⟨i, i1, i2, i3⟩ := g2.mp z
            exact (z_blkWN _ _ _ 3).mpr ⟨i, by omega, i2, (q_opens hR hI hp (i := i) (by omega) (b := b) (by omega)).mpr ⟨by omega, i3⟩⟩
        · obtain ⟨i, i1, i2, i3⟩ := (z_blkWN _ _ _ 3).mp z
          by_cases hi : (i : Int) < ρ 124 (45 + p).toNat
          · by_cases hb4 : b < 4
            · have := ((q_opens hR hI hp hi hb4).mp i3).1
              omega
            · rw [z_bit_ge 4 (u_open_11 hI hS p 3 i).2 (by omega)] at i3
              cases i3
          · rw [u_open11 σ p i1, if_neg (by omega), z_bit_0] at i3
            cases i3
      · unfold b_canServeByCounting_86 r_canServeByCounting_103
        have ex : k_it (b_canServeByCounting_103 ρ p j 1 x60 b x) (ρ 124 (45 + p).toNat).toNat 0 0 = k_it (b_canServeByCounting_103 ρ p j 1 x60 b 0) (ρ 124 (45 + p).toNat).toNat 0 0 := k_it_congr _ _ _ fun _ _ _ _ => rfl
        rw [ex]
        split <;> rfl
    rw [e60, e86]
  unfold m_canServeByCounting
  rw [hR.2.1.1.2.2, if_pos hp, hm]
  have h0 : ∀ (n i : Nat), k_els (r_canServeByCounting_32 ρ p) (k_for (b_canServeByCounting_32 ρ p) n i 0) = (false, k_up ρ 123 (k_u1 (ρ 123) 7 0)) := fun n i => by
    cases n with
    | zero => rfl
    | succ n => rfl
  have hloop : ∀ n i : Nat, i + n = (z_one (σ 5 p.toNat) - 1).toNat → ∃ b : Bool, ((∀ j, i ≤ j → j < (z_one (σ 5 p.toNat) - 1).toNat → ¬ z_cnt (f_blkW (u_open σ p 3 11) (1 + (j : Int))) < z_cnt (1 + (j : Int))) ↔ b = true) ∧ k_els (r_canServeByCounting_32 ρ p) (k_for (b_canServeByCounting_32 ρ p) n i 1) = (b, k_up ρ 123 (k_u1 (ρ 123) 7 0)) := fun n => by
    induction n with
    | zero =>
      intro i hi
      exact ⟨true, ⟨fun _ => rfl, fun _ j h1 h2 => (by omega)⟩, rfl⟩
    | succ n ih =>
      intro i hi
      have e : k_for (b_canServeByCounting_32 ρ p) (n + 1) i 1 = k_cn2 (k_for (b_canServeByCounting_32 ρ p) n (i + 1)) (b_canServeByCounting_32 ρ p i 1) := rfl
      rw [e, hone i (by omega)]
      by_cases q : z_cnt (f_blkW (u_open σ p 3 11) (1 + (i : Int))) < z_cnt (1 + (i : Int))
      · rw [if_pos q]
        exact ⟨false, ⟨fun h => absurd q (h i (Nat.le_refl i) (by omega)), fun h => (by cases h)⟩, h0 n (i + 1)⟩
      · rw [if_neg q]
        obtain ⟨b, b1, b2⟩ := ih (i + 1) (by omega)
        refine ⟨b, ⟨fun h => b1.mp fun j h1 h2 => h j (by omega) h2, fun h j h1 h2 => ?_⟩, b2⟩
        by_cases e : j = i
        · rw [e]
          exact q
        · exact b1.mpr h j (by omega) h2
  obtain ⟨b, b1, b2⟩ := hloop (z_one (σ 5 p.toNat) - 1).toNat 0 (by omega)
  refine ⟨b, ?_, b2⟩
  rw [← b1]
  unfold f_hall
  rw [hN]
  exact ⟨fun h j _ h2 => h j h2, fun h j h2 => h j (Nat.zero_le j) h2⟩
end K_R23
