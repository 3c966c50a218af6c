/-! ===== THE BEST VALUE by search is that by sets ===== -/
section P_A
variable {σ ρ τ : Nat → Nat → Int} {r : Nat → Int}
/-- no placement is better than the best one -/
theorem p_max {p : Int} (hm : r (45 + p).toNat ≤ 3) {a' : Nat → Int} (ha' : ∀ k, k < 4 → 0 ≤ a' k ∧ a' k ≤ 4) : ∀ (n : Nat) (a : Nat → Int) (B : G_B), n ≤ 4 → (∀ k, k < 4 - n → a' k = a k) → m_worth r a' p ≤ (G_ext r p n a B).2
  | 0, a, B, _, h => by
    rw [m_worth_a (a' := a) hm h]
    show m_worth r a p ≤ (G_leaf r p a B).2
    unfold G_leaf
    split
    · assumption
    · exact Int.le_refl _
  | n + 1, a, B, hn, h => by
    have hd := ha' (3 - n) (by omega)
    have hf : ∀ m : Nat, (a' (3 - n)).toNat < m → m_worth r a' p ≤ (k_fold m (fun d B => G_ext r p n (k_u1 a (3 - n) (d : Int)) B) B).2 := fun m => by
      induction m with
      | zero => exact fun h => absurd h (Nat.not_lt_zero _)
      | succ m ih =>
        intro hlt
        show m_worth r a' p ≤ (G_ext r p n (k_u1 a (3 - n) (m : Int)) (k_fold m (fun d B => G_ext r p n (k_u1 a (3 - n) (d : Int)) B) B)).2
        by_cases e : (a' (3 - n)).toNat = m
        · refine p_max hm ha' n _ _ (by omega) fun k hk => ?_
          unfold k_u1
          by_cases e2 : k = 3 - n
          · rw [if_pos e2, e2]
            omega
          · rw [if_neg e2]
            exact h k (by omega)
        · exact Int.le_trans (ih (by omega)) (G_mono p n _ _)
    exact hf 5 (by omega)
/-- twice the value of some wishes -/
def p_sc (v : Int) (n : Nat) : Int := k_fold n (fun k x => if z_bit v (2 - (k : Int)) = true then x + z_one (3 - (k : Int)) else x) 0
/-- what the sets of blocks say: an assignment -/
theorem p_suf1 (hR : k_P1 r σ) (hI : k_Ty σ) {p : Int} (hp : 0 ≤ p ∧ p < σ 1 2) (v : Int) : ∀ (n : Nat), n ≤ 3 → ∀ u : Int, 0 ≤ u → z_bit (f_sufN (u_roomy σ p 11) v n) u = true → ∃ a : Nat → Int, (∀ k, k < n → (0 ≤ a k ∧ a k ≤ 4) ∧ (a k = 4 ↔ ¬ z_bit v (2 - (k : Int)) = true)) ∧ k_for (b_worth_7 r a p) n 0 (0, 0) = .inr (u, p_sc v n)
  | 0, _, u, hu, h => by
    have h1 : z_bit (z_one 0) u = true := h
    rw [z_bit_one (Int.le_refl 0) hu] at h1
    have e : 0 = u := of_decide_eq_true h1
    subst e
    exact ⟨fun _ => 4, fun k hk => absurd hk (Nat.not_lt_zero k), rfl⟩
  | n + 1, hn, u, hu, h => by
    have eS : f_sufN (u_roomy σ p 11) v (n + 1) = if z_bit v (2 - (n : Int)) = true then f_swo (f_sufN (u_roomy σ p 11) v n) (u_roomy σ p 11 n) else f_sufN (u_roomy σ p 11) v n := rfl
    have eP : p_sc v (n + 1) = if z_bit v (2 - (n : Int)) = true then p_sc v n + z_one (3 - (n : Int)) else p_sc v n := rfl
    rw [eS] at h
    rw [eP]
    have step : ∀ (t : Int) (d : Int), 0 ≤ t → (0 ≤ d ∧ d ≤ 4) → z_bit (f_sufN (u_roomy σ p 11) v n) t = true → ∃ a : Nat → Int, a n = d ∧ (∀ k, k < n → (0 ≤ a k ∧ a k ≤ 4) ∧ (a k = 4 ↔ ¬ z_bit v (2 - (k : Int)) = true)) ∧ k_for (b_worth_7 r a p) (n + 1) 0 (0, 0) = if d = 4 then .inr (t, p_sc v n) else if z_bit (z_diff (u_roomy σ p 11 n) t) d = true then .inr (z_or t (z_one d), p_sc v n + z_one (3 - (n : Int))) else .inl (-1) := fun t d ht hd hz => by
      obtain ⟨a, a1, a2⟩ := p_suf1 hR hI hp v n (by omega) t ht hz
      have en : k_u1 a n d n = d := if_pos rfl
      refine ⟨k_u1 a n d, en, fun k hk => ?_, ?_⟩
      · rw [show k_u1 a n d k = a k from if_neg (by omega)]
        exact a1 k hk
      · rw [k_for_succ, k_for_cong (g := b_worth_7 r a p) n 0 (0, 0) fun j x _ hj => b_worth_a (show k_u1 a n d j = a j from if_neg (by omega)) x, a2, Nat.zero_add]
        show b_worth_7 r (k_u1 a n d) p n (t, p_sc v n) = _
        rw [q_worth_step hR hI hp (by omega) (by rw [en]; exact hd), en]
    by_cases q : z_bit v (2 - (n : Int)) = true
    · rw [if_pos q] at h ⊢
      obtain ⟨t, b, ht, hb, ⟨h1, h2⟩, h3⟩ := (z_swo _ _ u hu).mp h
      obtain ⟨a, a0, a1, a2⟩ := step (t : Int) (b : Int) (by omega) ⟨by omega, by omega⟩ h1
      rw [if_neg (by omega), if_pos h2, ← h3] at a2
      refine ⟨a, fun k hk => ?_, a2⟩
      by_cases e : k = n
      · subst e
        rw [a0]
        exact ⟨⟨by omega, by omega⟩, fun y => by omega, fun y => absurd q y⟩
      · exact a1 k (by omega)
    · rw [if_neg q] at h ⊢
      obtain ⟨a, a0, a1, a2⟩ := step u 4 hu ⟨by decide, by decide⟩ h
      rw [if_pos rfl] at a2
      refine ⟨a, fun k hk => ?_, a2⟩
      by_cases e : k = n
      · subst e
        rw [a0]
        exact ⟨⟨by decide, by decide⟩, fun _ => q, fun _ => rfl⟩
      · exact a1 k (by omega)
/-- and back -/
theorem p_suf2 (hR : k_P1 r σ) (hI : k_Ty σ) {p : Int} (hp : 0 ≤ p ∧ p < σ 1 2) (v : Int) {a : Nat → Int} : ∀ (n : Nat), n ≤ 3 → (∀ k, k < n → (0 ≤ a k ∧ a k ≤ 4) ∧ (a k = 4 ↔ ¬ z_bit v (2 - (k : Int)) = true)) → ∀ u sc : Int, k_for (b_worth_7 r a p) n 0 (0, 0) = .inr (u, sc) → (0 ≤ u ∧ u < 16) ∧ z_bit (f_sufN (u_roomy σ p 11) v n) u = true ∧ sc = p_sc v n
  | 0, _, _, u, sc, h => by
    have h : ((0 : Int), (0 : Int)) = (u, sc) := Sum.inr.inj h
    have e1 : 0 = u := congrArg Prod.fst h
    have e2 : 0 = sc := congrArg Prod.snd h
    subst e1 e2
    exact ⟨⟨by decide, by decide⟩, show z_bit 1 0 = true by decide, rfl⟩
  | n + 1, hn, ha, u, sc, h => by
    have eS : f_sufN (u_roomy σ p 11) v (n + 1) = if z_bit v (2 - (n : Int)) = true then f_swo (f_sufN (u_roomy σ p 11) v n) (u_roomy σ p 11 n) else f_sufN (u_roomy σ p 11) v n := rfl
    have eP : p_sc v (n + 1) = if z_bit v (2 - (n : Int)) = true then p_sc v n + z_one (3 - (n : Int)) else p_sc v n := rfl
    rw [eS, eP]
    rw [k_for_succ, Nat.zero_add] at h
    cases hx : k_for (b_worth_7 r a p) n 0 (0, 0) with
    | inl w =>
      rw [hx] at h
      cases h
    | inr x =>
      obtain ⟨t, sc'⟩ := x
      rw [hx] at h
      have h : b_worth_7 r a p n (t, sc') = .inr (u, sc) := h
      obtain ⟨i1, i2, i3⟩ := p_suf2 hR hI hp v n (by omega) (fun k hk => ha k (by omega)) t sc' hx
      obtain ⟨han, hav⟩ := ha n (by omega)
      rw [q_worth_step hR hI hp (by omega) han] at h
      by_cases q : a n = 4
      · rw [if_pos q] at h
        have e1 : t = u := congrArg Prod.fst (Sum.inr.inj h)
        have e2 : sc' = sc := congrArg Prod.snd (Sum.inr.inj h)
        rw [if_neg (hav.mp q), if_neg (hav.mp q), ← e1, ← e2]
        exact ⟨i1, i2, i3⟩
      · rw [if_neg q] at h
        have hv : z_bit v (2 - (n : Int)) = true := by
          cases hz : z_bit v (2 - (n : Int)) with
          | true => rfl
          | false => exact absurd (hav.mpr (by rw [hz]; decide)) q
        rw [if_pos hv, if_pos hv]
        by_cases hb : z_bit (z_diff (u_roomy σ p 11 n) t) (a n) = true
        · rw [if_pos hb] at h
          have e1 : z_or t (z_one (a n)) = u := congrArg Prod.fst (Sum.inr.inj h)
          have e2 : sc' + z_one (3 - (n : Int)) = sc := congrArg Prod.snd (Sum.inr.inj h)
          have et : ((t.toNat : Nat) : Int) = t := by omega
          have ea : (((a n).toNat : Nat) : Int) = a n := by omega
          have h16 := f_swo1 (t := t.toNat) (b := (a n).toNat) (by omega) (by omega)
          rw [et, ea, e1] at h16
          refine ⟨h16, (z_swo _ _ u h16.1).mpr ⟨t.toNat, (a n).toNat, by omega, by omega, ⟨by rw [et]; exact i2, by rw [et, ea]; exact hb⟩, by rw [et, ea, e1]⟩, ?_⟩
          rw [← e2, i3]
        · rw [if_neg hb] at h
          cases h
theorem p_sc_v : ∀ v : Fin 8, p_sc ((v.val : Nat) : Int) 3 = 2 * ((v.val : Nat) : Int) := by decide
theorem p_bits : ∀ b0 b1 b2 : Bool, ∃ v : Fin 8, (z_bit ((v.val : Nat) : Int) (2 - ((0 : Nat) : Int)) = b0) ∧ (z_bit ((v.val : Nat) : Int) (2 - ((1 : Nat) : Int)) = b1) ∧ (z_bit ((v.val : Nat) : Int) (2 - ((2 : Nat) : Int)) = b2) := by decide
/-- the greatest value by sets -/
theorem p_vbs (us : Nat → Int) : (0 ≤ f_vbs us ∧ f_vbs us ≤ 7) ∧ (f_vbs us ≠ 0 → f_suf us (f_vbs us) ≠ 0) ∧ ∀ v : Int, 1 ≤ v → v ≤ 7 → f_suf us v ≠ 0 → v ≤ f_vbs us := by
  unfold f_vbs
  rcases z_first_spec (P := fun i => decide (f_suf us (7 - (i : Int)) ≠ 0)) 7 with ⟨h1, h2⟩ | ⟨i, h1, h2, h3, h4⟩
  · rw [if_pos h1]
    refine ⟨by decide, fun h => absurd rfl h, fun v v1 v7 hv => ?_⟩
    have := h2 (7 - v).toNat (by omega)
    rw [show 7 - (((7 - v).toNat : Nat) : Int) = v by omega] at this
    exact absurd hv (of_decide_eq_false this)
  · rw [h2, if_neg (by omega)]
    refine ⟨by omega, fun _ => of_decide_eq_true h3, fun v v1 v7 hv => ?_⟩
    refine Classical.byContradiction fun hlt => ?_
    have := h4 (7 - v).toNat (by omega)
    rw [show 7 - (((7 - v).toNat : Nat) : Int) = v by omega] at this
    exact absurd hv (of_decide_eq_false this)
theorem p_suf0 {us : Nat → Int} {v : Int} : f_suf us v ≠ 0 ↔ ∃ u : Int, 0 ≤ u ∧ z_bit (f_suf us v) u = true := by
  constructor
  · intro h
    refine Classical.byContradiction fun hn => h ?_
    refine z_ext (f_sufN_r us v 3).1 (Int.le_refl 0) fun i hi => ?_
    rw [z_bit_0]
    cases hz : z_bit (f_suf us v) i with
    | false => rfl
    | true => exact absurd ⟨i, hi, hz⟩ hn
  · rintro ⟨u, _, h2⟩ h
    rw [h, z_bit_0] at h2
    cases h2
/-- the walk over the wishes and the reserve of a placement -/
theorem p_walk (hR : k_P1 r σ) (hI : k_Ty σ) {p : Int} (hp : 0 ≤ p ∧ p < σ 1 2) {a : Nat → Int} (ha : ∀ k, k < 4 → 0 ≤ a k ∧ a k ≤ 4) (hw : 0 ≤ m_worth r a p) : ∃ u sc, k_for (b_worth_7 r a p) 3 0 (0, 0) = .inr (u, sc) ∧ (m_worth r a p = sc ∨ m_worth r a p = sc + 1) := by
  have e : m_worth r a p = k_els (r_worth_7 r a p) (k_for (b_worth_7 r a p) 4 0 (0, 0)) := rfl
  have hneg : ∀ m : Nat, m ≤ 4 → ∀ v, k_for (b_worth_7 r a p) m 0 (0, 0) = .inl v → v = -1 := fun m => by
    induction m with
    | zero => exact fun _ v hv => by cases hv
    | succ m ih =>
      intro hm v hv
      rw [k_for_succ, Nat.zero_add] at hv
      cases hy : k_for (b_worth_7 r a p) m 0 (0, 0) with
      | inl w =>
        rw [hy] at hv
        have : w = v := Sum.inl.inj hv
        rw [← this]
        exact ih (by omega) w hy
      | inr y =>
        rw [hy] at hv
        have hv : b_worth_7 r a p m (y.1, y.2) = .inl v := hv
        rw [q_worth_step hR hI hp (by omega) (ha m (by omega))] at hv
        split at hv
        · cases hv
        · split at hv
          · cases hv
          · exact (Sum.inl.inj hv).symm
  have e4 := k_for_succ (b_worth_7 r a p) 3 0 (0, 0)
  rw [Nat.zero_add] at e4
  cases hx : k_for (b_worth_7 r a p) 3 0 (0, 0) with
  | inl w =>
    rw [hx] at e4
    have e4 : k_for (b_worth_7 r a p) 4 0 (0, 0) = .inl w := e4
    have := hneg 4 (Nat.le_refl 4) w e4
    rw [e4] at e
    have e : m_worth r a p = w := e
    omega
  | inr x =>
    obtain ⟨u, sc⟩ := x
    refine ⟨u, sc, rfl, ?_⟩
    rw [hx] at e4
    have e4 : k_for (b_worth_7 r a p) 4 0 (0, 0) = b_worth_7 r a p 3 (u, sc) := e4
    rw [q_worth_step hR hI hp (by decide) (ha 3 (by decide))] at e4
    have hr : ∀ y : Int × Int, r_worth_7 r a p y = y.2 ∨ r_worth_7 r a p y = -1 := fun y => by
      unfold r_worth_7
      split
      · split
        · exact Or.inl rfl
        · exact Or.inr rfl
      · exact Or.inl rfl
    by_cases q : a 3 = 4
    · rw [if_pos q] at e4
      rw [e4] at e
      have e : m_worth r a p = r_worth_7 r a p (u, sc) := e
      rcases hr (u, sc) with h | h
      · exact Or.inl (e.trans h)
      · omega
    · rw [if_neg q] at e4
      by_cases hb : z_bit (z_diff (u_roomy σ p 11 3) u) (a 3) = true
      · rw [if_pos hb] at e4
        rw [e4] at e
        have e : m_worth r a p = r_worth_7 r a p (z_or u (z_one (a 3)), sc + z_one (3 - ((3 : Nat) : Int))) := e
        rcases hr (z_or u (z_one (a 3)), sc + z_one (3 - ((3 : Nat) : Int))) with h | h
        · exact Or.inr (e.trans h)
        · omega
      · rw [if_neg hb] at e4
        rw [e4] at e
        have e : m_worth r a p = -1 := e
        omega
/-- of a pupil's best placement -/
theorem p_best (hR : k_P1 r σ) (hI : k_Ty σ) {p : Int} (hp : 0 ≤ p ∧ p < σ 1 2) : 0 ≤ (f_best (u_roomy σ p)).2.2 ∧ (∃ a : Nat → Int, (∀ k, k < 4 → (f_best (u_roomy σ p)).2.1 k = g_dg (a k) ∧ (0 ≤ a k ∧ a k ≤ 4)) ∧ m_worth r a p = (f_best (u_roomy σ p)).2.2) ∧ ∀ a : Nat → Int, (∀ k, k < 4 → 0 ≤ a k ∧ a k ≤ 4) → m_worth r a p ≤ (f_best (u_roomy σ p)).2.2 := by
  have hm := (hR.2.2.1.1 p hp.1 hp.2).1
  have h5 := hI.2.2.2.2.2.2.1 p.toNat
  obtain ⟨b0, b1, a, b2, b3⟩ := q_best (ρ := fun i => if i = 124 then r else fun _ => 0) (σ := σ) hR hI hp
  refine ⟨b0, ⟨a, fun k hk => ⟨(b2 k hk).1, (b2 k hk).2.1⟩, b3⟩, fun a' ha' => ?_⟩
  have he := q_ext hR hI hp 4 (fun _ => 0) 0 0 (u_roomy σ p 12, u_roomy σ p 13, -1) (fun _ => 0, -1) (Nat.le_refl 4) (fun k hk => absurd hk (by omega)) rfl (fun h => by cases h) (fun k hk => absurd hk (by omega)) (Int.le_refl 0) ⟨rfl, Int.le_refl _, fun y => absurd rfl y⟩
  have hx := p_max (r := r) (p := p) (by omega) ha' 4 (fun _ => 0) (fun _ => 0, -1) (Nat.le_refl 4) (fun k hk => absurd hk (by omega))
  have eb : f_best (u_roomy σ p) = g_ext (u_roomy σ p 11) (u_roomy σ p 10 4) 4 0 0 (u_roomy σ p 12, u_roomy σ p 13, -1) := rfl
  rw [eb, he.1.1]
  exact hx
/-- the best value, by search and by sets -/
theorem p_val (hR : k_P1 r σ) (hI : k_Ty σ) {p : Int} (hp : 0 ≤ p ∧ p < σ 1 2) : (f_best (u_roomy σ p)).2.2 / 2 = f_vbs (u_roomy σ p 11) := by
  obtain ⟨b0, ⟨a, b2, b3⟩, b4⟩ := p_best hR hI hp
  obtain ⟨v1, v2, v3⟩ := p_vbs (u_roomy σ p 11)
  have hm := (hR.2.2.1.1 p hp.1 hp.2).1
  have h5 := hI.2.2.2.2.2.2.1 p.toNat
  have hge : f_vbs (u_roomy σ p 11) ≤ (f_best (u_roomy σ p)).2.2 / 2 := by
    by_cases h0 : f_vbs (u_roomy σ p 11) = 0
    · omega
    obtain ⟨u, hu, hz⟩ := p_suf0.mp (v2 h0)
    obtain ⟨a', a1, a2⟩ := p_suf1 hR hI hp (f_vbs (u_roomy σ p 11)) 3 (Nat.le_refl 3) u hu hz
    have hsc : p_sc (f_vbs (u_roomy σ p 11)) 3 = 2 * f_vbs (u_roomy σ p 11) := by
      have := p_sc_v ⟨(f_vbs (u_roomy σ p 11)).toNat, by omega⟩
      rwa [show (((f_vbs (u_roomy σ p 11)).toNat : Nat) : Int) = f_vbs (u_roomy σ p 11) by omega] at this
    have e3 : k_u1 a' 3 4 3 = 4 := if_pos rfl
    have hr' : ∀ k, k < 4 → 0 ≤ k_u1 a' 3 4 k ∧ k_u1 a' 3 4 k ≤ 4 := fun k hk => by
      by_cases e : k = 3
      · subst e
        rw [e3]
        decide
      · rw [show k_u1 a' 3 4 k = a' k from if_neg e]
        exact (a1 k (by omega)).1
    have e : m_worth r (k_u1 a' 3 4) p = k_els (r_worth_7 r (k_u1 a' 3 4) p) (k_for (b_worth_7 r (k_u1 a' 3 4) p) 4 0 (0, 0)) := rfl
    have e4 := k_for_succ (b_worth_7 r (k_u1 a' 3 4) p) 3 0 (0, 0)
    rw [Nat.zero_add, k_for_cong (g := b_worth_7 r a' p) 3 0 (0, 0) (fun j x _ hj => b_worth_a (show k_u1 a' 3 4 j = a' j from if_neg (by omega)) x), a2] at e4
    have e4 : k_for (b_worth_7 r (k_u1 a' 3 4) p) 4 0 (0, 0) = b_worth_7 r (k_u1 a' 3 4) p 3 (u, p_sc (f_vbs (u_roomy σ p 11)) 3) := e4
    rw [q_worth_step hR hI hp (by decide) (hr' 3 (by decide)), if_pos e3] at e4
    rw [e4] at e
    have e : m_worth r (k_u1 a' 3 4) p = r_worth_7 r (k_u1 a' 3 4) p (u, p_sc (f_vbs (u_roomy σ p 11)) 3) := e
    have e5 : r_worth_7 r (k_u1 a' 3 4) p (u, p_sc (f_vbs (u_roomy σ p 11)) 3) = p_sc (f_vbs (u_roomy σ p 11)) 3 := by
      unfold r_worth_7
      exact if_neg (by rw [e3]; decide)
    have := b4 _ hr'
    omega
  have hle : (f_best (u_roomy σ p)).2.2 / 2 ≤ f_vbs (u_roomy σ p 11) := by
    obtain ⟨u, sc, w1, w2⟩ := p_walk hR hI hp (fun k hk => (b2 k hk).2) (by omega)
    obtain ⟨v, c0, c1, c2⟩ := p_bits (decide (a 0 ≠ 4)) (decide (a 1 ≠ 4)) (decide (a 2 ≠ 4))
    have hbit : ∀ k, k < 3 → (0 ≤ a k ∧ a k ≤ 4) ∧ (a k = 4 ↔ ¬ z_bit ((v.val : Nat) : Int) (2 - (k : Int)) = true) := fun k hk => by
      refine ⟨(b2 k (by omega)).2, ?_⟩
      have : k = 0 ∨ k = 1 ∨ k = 2 := by omega
      rcases this with rfl | rfl | rfl
      · rw [c0, decide_eq_true_eq, Decidable.not_not]
      · rw [c1, decide_eq_true_eq, Decidable.not_not]
      · rw [c2, decide_eq_true_eq, Decidable.not_not]
    obtain ⟨s1, s2, s3⟩ := p_suf2 hR hI hp ((v.val : Nat) : Int) 3 (Nat.le_refl 3) hbit u sc w1
    rw [p_sc_v v] at s3
    have hv8 := v.isLt
    by_cases h0 : v.val = 0
    · omega
    have := v3 ((v.val : Nat) : Int) (by omega) (by omega) (p_suf0.mpr ⟨u, s1.1, s2⟩)
    omega
  omega
/-- who can have all three wishes where there is room has a block for each -/
theorem p_val7 (hR : k_P1 r σ) (hI : k_Ty σ) {p : Int} (hp : 0 ≤ p ∧ p < σ 1 2) (h : f_vbs (u_roomy σ p 11) = 7) : ∃ b0 b1 b2 : Nat, (b0 < 4 ∧ b1 < 4 ∧ b2 < 4) ∧ (b0 ≠ b1 ∧ b0 ≠ b2 ∧ b1 ≠ b2) ∧ z_bit (u_roomy σ p 11 0) (b0 : Int) = true ∧ z_bit (u_roomy σ p 11 1) (b1 : Int) = true ∧ z_bit (u_roomy σ p 11 2) (b2 : Int) = true := by
  obtain ⟨v1, v2, v3⟩ := p_vbs (u_roomy σ p 11)
  rw [h] at v2
  obtain ⟨u, hu, hz⟩ := p_suf0.mp (v2 (by decide))
  have ez : ∀ us : Nat → Int, f_suf us 7 = f_swo (f_swo (f_swo 1 (us 0)) (us 1)) (us 2) := fun us => by
    have s2 : f_sufN us 7 3 = if z_bit 7 (2 - ((2 : Nat) : Int)) = true then f_swo (f_sufN us 7 2) (us 2) else f_sufN us 7 2 := rfl
    have s1 : f_sufN us 7 2 = if z_bit 7 (2 - ((1 : Nat) : Int)) = true then f_swo (f_sufN us 7 1) (us 1) else f_sufN us 7 1 := rfl
    have s0 : f_sufN us 7 1 = if z_bit 7 (2 - ((0 : Nat) : Int)) = true then f_swo (f_sufN us 7 0) (us 0) else f_sufN us 7 0 := rfl
    have sz : f_sufN us 7 0 = 1 := rfl
    unfold f_suf
    rw [s2, if_pos (by decide), s1, if_pos (by decide), s0, if_pos (by decide), sz]
  rw [ez] at hz
  obtain ⟨t2, b2, t2r, b2r, ⟨x1, x2⟩, x3⟩ := (z_swo _ _ u hu).mp hz
  obtain ⟨t1, b1, t1r, b1r, ⟨y1, y2⟩, y3⟩ := (z_swo _ _ (t2 : Int) (by omega)).mp x1
  obtain ⟨t0, b0, t0r, b0r, ⟨w1, w2⟩, w3⟩ := (z_swo _ _ (t1 : Int) (by omega)).mp y1
  rw [z_bit_diff, Bool.and_eq_true, Bool.not_eq_true'] at x2 y2 w2
  refine ⟨b0, b1, b2, ⟨b0r, b1r, b2r⟩, ⟨fun e => ?_, fun e => ?_, fun e => ?_⟩, w2.1, y2.1, x2.1⟩
  · have := y2.2
    rw [w3, z_bit_or, z_bit_one (by omega) (by omega), ← e, decide_eq_true rfl, Bool.or_true] at this
    cases this
  · have := x2.2
    rw [y3, z_bit_or, w3, z_bit_or, z_bit_one (by omega) (by omega), ← e, decide_eq_true rfl, Bool.or_true, Bool.true_or] at this
    cases this
  · have := x2.2
    rw [y3, z_bit_or, z_bit_one (by omega) (by omega), ← e, decide_eq_true rfl, Bool.or_true] at this
    cases this
end P_A
