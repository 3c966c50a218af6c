/-! ===== SETTING UP, ENROLLING: what the law's own loops keep ===== -/
section P_L
variable {E : k_E} {sh : List k_Sh} {σ τ υ : Nat → Nat → Int} {r : Nat → Int} {p s b z : Int}
theorem p_asI (v : Int32) : ∃ z : Int, (-2147483648 ≤ z ∧ z < 2147483648) ∧ v = iI z := ⟨v.toInt, k_r_toInt v, iI_of v⟩
theorem p_remV {z c : Int} (hz : 0 ≤ z ∧ z < 2147483648) (hc : 0 < c ∧ c < 100000) : ∃ q : Int, (0 ≤ q ∧ q < c) ∧ ¬ iI c = 0 ∧ iI z - iI z / iI c * iI c = iI q := by
  refine ⟨z % c, ⟨Int.emod_nonneg _ (by omega), Int.emod_lt_of_pos _ (by omega)⟩, fun e => ?_, p_remI hz.1 hz.2 hc.1 (by omega)⟩
  have := (iI_eq (a := c) (b := 0) ⟨by omega, by omega⟩ ⟨by decide, by decide⟩).mp e
  omega
theorem p_divV {z c : Int} (hz : 0 ≤ z ∧ z < 2147483648) (hc : 0 < c ∧ c < 100000) : ∃ q : Int, (0 ≤ q ∧ q < 2147483648) ∧ ¬ iI c = 0 ∧ iI z / iI c = iI q := by
  refine ⟨z / c, ⟨Int.ediv_nonneg hz.1 (by omega), ?_⟩, fun e => ?_, p_divI hz.1 hz.2 hc.1 (by omega)⟩
  · have := Int.ediv_le_self c hz.1
    omega
  · have := (iI_eq (a := c) (b := 0) ⟨by omega, by omega⟩ ⟨by decide, by decide⟩).mp e
    omega
theorem p_made {m a b d : Int} (h : e_fault σ m a b d = 0) : u_make σ m a b d = u_perf (u_kept σ m a b d) m a b d := if_pos h
/-- blocks set -/
theorem s_blocks (hJ : p_J σ) (h : e_fault σ 1 z 0 0 = 0) : u_make σ 1 z 0 0 1 0 = σ 1 0 ∧ u_make σ 1 z 0 0 1 1 = z ∧ u_make σ 1 z 0 0 1 2 = σ 1 2 ∧ u_make σ 1 z 0 0 4 = σ 4 := by
  have hk := p_kept hJ.1.1 1 z 0 0
  have e : ∀ i, u_make σ 1 z 0 0 i = k_up (u_kept σ 1 z 0 0) 1 (k_u1 (u_kept σ 1 z 0 0 1) 1 z) i := fun i => by rw [p_made h]; rfl
  rw [e 1, e 4, k_up_same, k_up_ne (by decide), hk.c1, hk 4 (by decide)]
  exact ⟨rfl, rfl, rfl, rfl⟩
/-- a new subject -/
theorem s_subject (hJ : p_J σ) (h : e_fault σ 0 z 0 0 = 0) : u_make σ 0 z 0 0 1 0 = σ 1 0 + 1 ∧ u_make σ 0 z 0 0 1 1 = σ 1 1 ∧ u_make σ 0 z 0 0 1 2 = σ 1 2 ∧ u_make σ 0 z 0 0 4 = σ 4 ∧ f_open (u_make σ 0 z 0 0) (σ 1 0) = 0 := by
  have hk := p_kept hJ.1.1 0 z 0 0
  obtain ⟨r, hR⟩ := hJ.2.1
  obtain ⟨j0, j1, j2⟩ := p_J_rg hJ
  have e : ∀ i, u_make σ 0 z 0 0 i = k_up (k_up (u_kept σ 0 z 0 0) 2 (k_u1 (u_kept σ 0 z 0 0 2) (u_kept σ 0 z 0 0 1 0).toNat z)) 1 (k_u1 (u_kept σ 0 z 0 0 1) 0 (u_kept σ 0 z 0 0 1 0 + 1)) i := fun i => by rw [p_made h]; rfl
  have e1 : u_make σ 0 z 0 0 1 = k_u1 (σ 1) 0 (σ 1 0 + 1) := by rw [e 1, k_up_same, hk.c1]
  have e3 : u_make σ 0 z 0 0 3 = σ 3 := by rw [e 3, k_up_ne (by decide), k_up_ne (by decide), hk 3 (by decide)]
  have e4 : u_make σ 0 z 0 0 4 = σ 4 := by rw [e 4, k_up_ne (by decide), k_up_ne (by decide), hk 4 (by decide)]
  refine ⟨by rw [e1]; rfl, by rw [e1]; rfl, by rw [e1]; rfl, e4, ?_⟩
  unfold f_open
  rw [e1, e3]
  have : k_u1 (σ 1) 0 (σ 1 0 + 1) 0 = σ 1 0 + 1 := rfl
  rw [this, if_pos ⟨j0.1, by omega⟩]
  exact hR.2.1.2.2.2.2 (σ 1 0).toNat (by omega)
/-- a class opened -/
theorem s_open (hJ : p_J σ) (hs : 0 ≤ s ∧ s < σ 1 0) (h : e_fault σ 2 s b 0 = 0) : u_make σ 2 s b 0 1 = σ 1 ∧ u_make σ 2 s b 0 4 = σ 4 ∧ f_open (u_make σ 2 s b 0) s = z_or (f_open σ s) (z_one b) := by
  have hk := p_kept hJ.1.1 2 s b 0
  have e : ∀ i, u_make σ 2 s b 0 i = k_up (u_kept σ 2 s b 0) 3 (k_u1 (u_kept σ 2 s b 0 3) s.toNat (z_or (f_open (u_kept σ 2 s b 0) s) (z_one b))) i := fun i => by rw [p_made h]; rfl
  have e1 : u_make σ 2 s b 0 1 = σ 1 := by rw [e 1, k_up_ne (by decide), hk.c1]
  refine ⟨e1, by rw [e 4, k_up_ne (by decide), hk 4 (by decide)], ?_⟩
  have e3 : u_make σ 2 s b 0 3 = k_u1 (σ 3) s.toNat (z_or (f_open σ s) (z_one b)) := by rw [e 3, k_up_same, hk 3 (by decide), hk.opn]
  have e0 : f_open (u_make σ 2 s b 0) s = if 0 ≤ s ∧ s < u_make σ 2 s b 0 1 0 then u_make σ 2 s b 0 3 s.toNat else 0 := rfl
  rw [e0, e1, e3, if_pos hs]
  exact if_pos rfl
/-- a new pupil -/
theorem s_pupil (hJ : p_J σ) (h : e_fault σ 4 0 0 0 = 0) : u_make σ 4 0 0 0 1 0 = σ 1 0 ∧ u_make σ 4 0 0 0 1 1 = σ 1 1 ∧ u_make σ 4 0 0 0 1 2 = σ 1 2 + 1 ∧ u_make σ 4 0 0 0 4 = σ 4 ∧ u_make σ 4 0 0 0 5 = σ 5 ∧ u_make σ 4 0 0 0 5 (σ 1 2).toNat = 0 ∧ u_make σ 4 0 0 0 7 (σ 1 2).toNat = -1 := by
  have hk := p_kept hJ.1.1 4 0 0 0
  obtain ⟨r, hR⟩ := hJ.2.1
  obtain ⟨j0, j1, j2⟩ := p_J_rg hJ
  have e : ∀ i, u_make σ 4 0 0 0 i = k_up (k_up (u_kept σ 4 0 0 0) 7 (k_u1 (u_kept σ 4 0 0 0 7) (u_kept σ 4 0 0 0 1 2).toNat (-1))) 1 (k_u1 (u_kept σ 4 0 0 0 1) 2 (u_kept σ 4 0 0 0 1 2 + 1)) i := fun i => by rw [p_made h]; rfl
  have e1 : u_make σ 4 0 0 0 1 = k_u1 (σ 1) 2 (σ 1 2 + 1) := by rw [e 1, k_up_same, hk.c1]
  have e5 : u_make σ 4 0 0 0 5 = σ 5 := by rw [e 5, k_up_ne (by decide), k_up_ne (by decide), hk 5 (by decide)]
  have e7 : u_make σ 4 0 0 0 7 = k_u1 (σ 7) (σ 1 2).toNat (-1) := by rw [e 7, k_up_ne (by decide), k_up_same, hk 7 (by decide), hk.c1]
  refine ⟨by rw [e1]; rfl, by rw [e1]; rfl, by rw [e1]; rfl, by rw [e 4, k_up_ne (by decide), k_up_ne (by decide), hk 4 (by decide)], e5, ?_, ?_⟩
  · rw [e5]
    exact hR.2.2.1.2.2.2 (σ 1 2).toNat (by omega)
  · rw [e7]
    exact if_pos rfl
/-- a wish -/
theorem s_wish (hJ : p_J σ) (hp : 0 ≤ p ∧ p < σ 1 2) (hs : 0 ≤ s ∧ s < σ 1 0) : u_make σ 5 p s 0 1 = σ 1 ∧ u_make σ 5 p s 0 4 = σ 4 ∧ (∀ j, j ≠ p.toNat → u_make σ 5 p s 0 5 j = σ 5 j) ∧ σ 5 p.toNat ≤ u_make σ 5 p s 0 5 p.toNat ∧ (σ 5 p.toNat = 0 → σ 7 p.toNat = -1 → 1 ≤ u_make σ 5 p s 0 5 p.toNat) := by
  have hk := p_kept hJ.1.1 5 p s 0
  by_cases h : e_fault σ 5 p s 0 = 0
  · have e : ∀ i, u_make σ 5 p s 0 i = k_up (k_up (u_kept σ 5 p s 0) 6 (k_u1 (u_kept σ 5 p s 0 6) (p * 3 + u_kept σ 5 p s 0 5 p.toNat).toNat s)) 5 (k_u1 (u_kept σ 5 p s 0 5) p.toNat (u_kept σ 5 p s 0 5 p.toNat + 1)) i := fun i => by rw [p_made h]; rfl
    have e5 : u_make σ 5 p s 0 5 = k_u1 (σ 5) p.toNat (σ 5 p.toNat + 1) := by rw [e 5, k_up_same, hk 5 (by decide)]
    have e55 : k_u1 (σ 5) p.toNat (σ 5 p.toNat + 1) p.toNat = σ 5 p.toNat + 1 := if_pos rfl
    refine ⟨by rw [e 1, k_up_ne (by decide), k_up_ne (by decide), hk.c1], by rw [e 4, k_up_ne (by decide), k_up_ne (by decide), hk 4 (by decide)], fun j hj => ?_, ?_, fun h0 _ => ?_⟩
    · rw [e5]
      exact if_neg hj
    · rw [e5, e55]
      omega
    · rw [e5, e55]
      omega
  · have hpl := p_make_x h
    refine ⟨hpl.c1, hpl 4 (by decide), fun j _ => by rw [hpl 5 (by decide)], by rw [hpl 5 (by decide)]; exact Int.le_refl _, fun h0 h7 => ?_⟩
    exfalso
    apply h
    show e_wish σ p s = 0
    have hre : e_reserve σ p s = 0 := by
      unfold e_reserve
      rw [if_pos (show _ ∧ _ from ⟨hp, hs⟩), if_neg]
      rintro (y | y)
      · have e0 : f_wishSet σ p = 0 := by
          unfold f_wishSet
          rw [h0]
          rfl
        rw [e0, z_bit_0] at y
        cases y
      · omega
    unfold e_wish
    rw [if_pos hre, if_neg (by omega)]
/-- a reserve -/
theorem s_reserve (hJ : p_J σ) : u_make σ 6 p s 0 1 = σ 1 ∧ u_make σ 6 p s 0 4 = σ 4 ∧ u_make σ 6 p s 0 5 = σ 5 := by
  have hk := p_kept hJ.1.1 6 p s 0
  by_cases h : e_fault σ 6 p s 0 = 0
  · have e : ∀ i, u_make σ 6 p s 0 i = k_up (u_kept σ 6 p s 0) 7 (k_u1 (u_kept σ 6 p s 0 7) p.toNat s) i := fun i => by rw [p_made h]; rfl
    exact ⟨by rw [e 1, k_up_ne (by decide), hk.c1], by rw [e 4, k_up_ne (by decide), hk 4 (by decide)], by rw [e 5, k_up_ne (by decide), hk 5 (by decide)]⟩
  · have hpl := p_make_x h
    exact ⟨hpl.c1, hpl 4 (by decide), hpl 5 (by decide)⟩
/-! lessons -/
theorem p_lb (hb : 0 ≤ b) : 0 ≤ f_lesson σ p b ↔ z_bit (f_busy σ b) p = true := by
  unfold f_lesson f_busy
  rw [z_busyN]
  rcases z_first_spec (P := fun s => z_bit (f_roster σ (s : Int) b) p) (σ 1 0).toNat with ⟨h1, h2⟩ | ⟨i, h1, h2, h3, h4⟩
  · rw [h1]
    exact ⟨fun h => absurd h (by decide), fun ⟨s, h, h'⟩ => by rw [h2 s h] at h'; cases h'⟩
  · rw [h2]
    exact ⟨fun _ => ⟨i, h1, h3⟩, fun _ => by omega⟩
theorem p_lessons_s (n : Nat) : f_lessonsN σ p (n + 1) = f_lessonsN σ p n + zb (0 ≤ f_lesson σ p (n : Int)) := by
  show f_lessonsN σ p n + zb (z_bit (f_busy σ (n : Int)) p = true) = _
  rw [zb_iff (p_lb (σ := σ) (p := p) (b := (n : Int)) (by omega))]
def p_has (σ : Nat → Nat → Int) (p : Int) (n : Nat) : Bool := z_any n (fun b => decide (0 ≤ f_lesson σ p (b : Int)))
theorem p_has_n (n : Nat) : (p_has σ p n = true ↔ 0 < f_lessonsN σ p n) := by
  induction n with
  | zero => exact ⟨fun h => (by cases h), fun h => absurd h (by show ¬ (0 : Int) < 0; decide)⟩
  | succ n ih =>
    have h0 := f_lessonsN_r σ p n
    have e : p_has σ p (n + 1) = (p_has σ p n || decide (0 ≤ f_lesson σ p (n : Int))) := rfl
    rw [e, Bool.or_eq_true, ih, p_lessons_s, decide_eq_true_eq]
    by_cases q : 0 ≤ f_lesson σ p (n : Int)
    · rw [zb_t q]
      exact ⟨fun _ => by omega, fun _ => Or.inr q⟩
    · rw [zb_f q, Int.add_zero]
      exact ⟨fun h => h.resolve_right q, Or.inl⟩
theorem p_less0 (h : ∀ s b : Int, z_bit (f_roster σ s b) p = false) : f_lessons σ p = 0 := by
  have hn : ∀ n : Nat, f_lessonsN σ p n = 0 := fun n => by
    induction n with
    | zero => rfl
    | succ n ih =>
      show f_lessonsN σ p n + zb (z_bit (f_busy σ (n : Int)) p = true) = 0
      rw [ih, zb_f]
      · rfl
      · unfold f_busy
        rw [z_busyN]
        rintro ⟨s, -, hs⟩
        rw [h] at hs
        cases hs
  exact hn _
theorem p_busy1 (hJ : p_J σ) (hp : 0 ≤ p) (h : z_bit (f_roster σ s b) p = true) : 0 < f_lessons σ p := by
  obtain ⟨r, hR⟩ := hJ.2.1
  obtain ⟨⟨h1, h2⟩, h3, h4⟩ := q_bitS hR hp h
  have hb : 0 ≤ f_lesson σ p b := by
    rw [p_lb h2.1]
    unfold f_busy
    rw [z_busyN]
    exact ⟨s.toNat, by omega, by rwa [show ((s.toNat : Nat) : Int) = s by omega]⟩
  have := (p_has_n (σ := σ) (p := p) (σ 1 1).toNat).mp ((z_any_iff _).mpr ⟨b.toNat, by omega, by
    rw [show ((b.toNat : Nat) : Int) = b by omega]
    exact decide_eq_true hb⟩)
  exact this
/-- no pupil from q on is in a class -/
def p_N (σ : Nat → Nat → Int) (q : Int) : Prop := ∀ j s b : Int, q ≤ j → z_bit (f_roster σ s b) j = false
theorem p_N_pl (h : k_PlEq τ σ) {q : Int} (hN : p_N σ q) : p_N τ q := fun j s b hj => by
  rw [h.roster]
  exact hN j s b hj
theorem p_N_0 (h : ∀ j, σ 4 j = 0) : p_N σ 0 := fun j s b hj => by
  have e : f_roster σ s b = 0 := by
    unfold f_roster
    split
    · exact h _
    · rfl
  rw [e]
  exact z_bit_0 j
/-- enrolling one: what is known behind it -/
theorem s_enrol (hJ : p_J σ) (hp : 0 ≤ p ∧ p < σ 1 2) (h : e_fault σ 7 p 0 0 = 0) : (∀ s b : Int, z_diff (f_roster (u_make σ 7 p 0 0) s b) (z_one p) = z_diff (f_roster σ s b) (z_one p)) ∧ (∀ i, i = 1 ∨ i = 2 ∨ i = 3 ∨ i = 5 ∨ i = 6 ∨ i = 7 → u_make σ 7 p 0 0 i = σ i) ∧ (0 < f_vbs (u_roomy σ p 11) → ∃ s b : Int, z_bit (f_roster (u_make σ 7 p 0 0) s b) p = true) := by
  have hk := p_kept hJ.1.1 7 p 0 0
  obtain ⟨r, hR⟩ := hJ.2.1
  have hR' := k_P1_pl hk hR
  have hI' := hk.ty hJ.1.1.1
  have hp' : 0 ≤ p ∧ p < u_kept σ 7 p 0 0 1 2 := by rw [hk.c1]; exact hp
  have e : u_make σ 7 p 0 0 = u_give (u_kept σ 7 p 0 0) p := (p_made h).trans rfl
  obtain ⟨g1, g2, g3⟩ := p_gives hR' hI' hp'
  rw [e]
  refine ⟨fun s b => by rw [g1, hk.roster], fun i hi => ?_, fun hv => g3 ?_⟩
  · rw [u_give_far p (by omega), hk i (by omega)]
  · have := p_val hR' hI' hp'
    rw [p_val_pl hk] at this
    omega
theorem s_enrol_bit (hd : ∀ s b : Int, z_diff (f_roster τ s b) (z_one p) = z_diff (f_roster σ s b) (z_one p)) (hp : 0 ≤ p) {q : Int} (hq : 0 ≤ q) (hne : p ≠ q) (s b : Int) : z_bit (f_roster τ s b) q = z_bit (f_roster σ s b) q := by
  have h1 := z_bit_diff (f_roster τ s b) (z_one p) q
  have h2 := z_bit_diff (f_roster σ s b) (z_one p) q
  rw [hd, h2, z_bit_one hp hq, decide_eq_false hne] at h1
  simpa using h1.symm
theorem p_N_enrol (hJ : p_J σ) (hp : 0 ≤ p ∧ p < σ 1 2) (hN : p_N σ (p + 1)) : p_N (u_make σ 7 p 0 0) (p + 1) := by
  by_cases h : e_fault σ 7 p 0 0 = 0
  · obtain ⟨h1, -, -⟩ := s_enrol hJ hp h
    exact fun j s b hj => by
      rw [s_enrol_bit h1 hp.1 (by omega) (by omega)]
      exact hN j s b hj
  · exact p_N_pl (p_make_x h) hN
/-- the clashes by both ways -/
theorem p_clash (hJ : p_J σ) : (f_abest σ).2.2.2 = (f_atry (u_abest σ)).1 ∧ (0 ≤ (f_abest σ).2.2.2 ∧ (f_abest σ).2.2.2 ≤ 588) := by
  obtain ⟨r, hR⟩ := hJ.2.1
  have hJ2 := p_J_abest hJ
  have h1 := q_arr (ρ := fun i => if i = 124 then r else fun _ => 0) (σ := σ) hR hJ.1.1.1 hJ.1.1.2.2.2.1
  have h2 := q_arr (ρ := fun i => if i = 124 then r else fun _ => 0) (σ := u_abest σ) (k_P1_pl u_abest_pl hR) hJ2.1.1.1 hJ2.1.1.2.2.2.1
  exact ⟨h1.1.1.trans h2.2.1.symm, h1.1.2⟩
end P_L
