/-! ===== THE RELATION KEPT: single changes of the row and the plan ===== -/
section K_R8
variable {r r' o o' si op ro wc wi re cp cb : Nat → Int}
/-- alike from lo on, below hi -/
def k_al (lo hi : Nat) (r' r : Nat → Int) : Prop := ∀ j, lo ≤ j → j < hi → r' j = r j
theorem k_al_u {lo hi : Nat} {f r : Nat → Int} {j : Nat} {z : Int} (h : k_al lo hi f r) (hj : j < lo ∨ hi ≤ j) : k_al lo hi (k_u1 f j z) r := fun i h1 h2 => (if_neg (show ¬ i = j by omega)).trans (h i h1 h2)
theorem k_al_rf {lo hi : Nat} {r : Nat → Int} : k_al lo hi r r := fun _ _ _ => rfl
theorem k_PRo_r (h : k_PRo r o si op) (ho : o 0 ≤ 7) (h1 : k_al 0 3 r' r) (h2 : k_al 10 45 r' r) : k_PRo r' o si op := by
  obtain ⟨⟨a0, a1, a2⟩, b, c, d, e⟩ := h
  refine ⟨⟨(h1 0 (by omega) (by omega)).trans a0, (h1 1 (by omega) (by omega)).trans a1, (h1 2 (by omega) (by omega)).trans a2⟩, fun s s0 s1 => ?_, fun s b s0 s1 b0 b1 => ?_, d, e⟩
  · rw [h2 _ (by omega) (by omega)]
    exact b s s0 s1
  · rw [h2 _ (by omega) (by omega)]
    exact c s b s0 s1 b0 b1
theorem k_PRw_r (h : k_PRw r o wc wi re) (ho : o 2 ≤ 12) (hw : ∀ j, wc j ≤ 3) (h1 : k_al 45 105 r' r) : k_PRw r' o wc wi re := by
  obtain ⟨a, b, c, d⟩ := h
  refine ⟨fun p p0 p1 => ?_, fun p k p0 p1 k0 k1 => ?_, c, d⟩
  · rw [h1 _ (by omega) (by omega), h1 _ (by omega) (by omega)]
    exact a p p0 p1
  · have := hw p.toNat
    rw [h1 _ (by omega) (by omega)]
    exact b p k p0 p1 k0 k1
theorem k_PRt_r (h : k_PRt r o op ro) (ho : o 2 ≤ 12) (h1 : k_al 105 153 r' r) : k_PRt r' o op ro := by
  obtain ⟨a, b, c, d⟩ := h
  refine ⟨fun p s b p0 p1 s0 s1 b0 b1 => ?_, b, c, fun p b c p0 p1 b0 b1 c0 c1 => ?_⟩
  · rw [h1 _ (by omega) (by omega)]
    exact a p s b p0 p1 s0 s1 b0 b1
  · rw [h1 _ (by omega) (by omega), h1 _ (by omega) (by omega)]
    exact d p b c p0 p1 b0 b1 c0 c1
theorem k_PRc_r (h : k_PRc r o cp cb) (ho : o 9 ≤ 3) (h1 : k_al 3 10 r' r) : k_PRc r' o cp cb := by
  obtain ⟨a, b⟩ := h
  refine ⟨(h1 3 (by omega) (by omega)).trans a, fun k k0 k1 => ?_⟩
  rw [h1 _ (by omega) (by omega), h1 _ (by omega) (by omega)]
  exact b k k0 k1
/-- a pupil leaves a class -/
theorem k_PRt_leave (h : k_PRt r o op ro) (ho : o 2 ≤ 12) (hro : ∀ j, 0 ≤ ro j) {p s b : Int} (hp : 0 ≤ p ∧ p < o 2) (hs : 0 ≤ s ∧ s < 7) (hb : 0 ≤ b ∧ b < 4) (hat : r (105 + 4 * p + b).toNat = s) : k_PRt (k_u1 r (105 + 4 * p + b).toNat (-1)) o op (k_u1 ro (s * 4 + b).toNat (z_diff (ro (s * 4 + b).toNat) (z_one p))) := by
  obtain ⟨a1, a2, a3, a4⟩ := h
  have hsub : ∀ (s' b' q : Int), 0 ≤ q → 0 ≤ s' → s' < 7 → 0 ≤ b' → b' < 4 → z_bit (k_u1 ro (s * 4 + b).toNat (z_diff (ro (s * 4 + b).toNat) (z_one p)) (s' * 4 + b').toNat) q = (z_bit (ro (s' * 4 + b').toNat) q && !(decide (s' = s) && decide (b' = b) && decide (p = q))) := by
    intro s' b' q q0 s0 s1 b0 b1
    unfold k_u1
    by_cases e : s' = s ∧ b' = b
    · obtain ⟨rfl, rfl⟩ := e
      rw [if_pos rfl, z_bit_diff, z_bit_one hp.1 q0]
      simp
    · rw [if_neg (by omega)]
      have : (decide (s' = s) && decide (b' = b)) = false := by
        rw [Bool.and_eq_false_iff]
        by_cases w : s' = s
        · right
          exact decide_eq_false fun z => e ⟨w, z⟩
        · left
          exact decide_eq_false w
      rw [this]
      simp
  refine ⟨fun q s' b' q0 q1 s0 s1 b0 b1 => ?_, fun q s' b' q0 s0 s1 b0 b1 => ?_, fun q s' b' q0 s0 s1 b0 b1 hz => ?_, fun q b' c q0 q1 b0 b1 c0 c1 => ?_⟩
  · rw [hsub s' b' q q0 s0 s1 b0 b1]
    have h1 := a1 q s' b' q0 q1 s0 s1 b0 b1
    unfold k_u1
    by_cases e : q = p ∧ b' = b
    · obtain ⟨rfl, rfl⟩ := e
      rw [if_pos rfl]
      constructor
      · intro z
        simp only [Bool.and_eq_true, Bool.not_eq_true'] at z
        have := h1.mp z.1
        rw [hat] at this
        subst this
        simp at z
      · intro z
        omega
    · rw [if_neg (by omega), ← h1]
      constructor
      · intro z
        exact (Bool.and_eq_true _ _ ▸ z).1
      · intro z
        rw [z]
        have : (decide (s' = s) && decide (b' = b) && decide (p = q)) = false := by
          by_cases w : b' = b
          · have : ¬ p = q := fun y => e ⟨y.symm, w⟩
            rw [decide_eq_false this, Bool.and_false]
          · rw [decide_eq_false w, Bool.and_false, Bool.false_and]
        rw [this]
        rfl
  · rw [hsub s' b' q (by omega) s0 s1 b0 b1, a2 q s' b' q0 s0 s1 b0 b1]
    rfl
  · rw [hsub s' b' q q0 s0 s1 b0 b1, Bool.and_eq_true] at hz
    exact a3 q s' b' q0 s0 s1 b0 b1 hz.1
  · have h4 := a4 q b' c q0 q1 b0 b1 c0 c1
    unfold k_u1
    by_cases e : (105 + 4 * q + b').toNat = (105 + 4 * p + b).toNat
    · rw [if_pos e]
      intro _ z
      exact absurd rfl z
    · rw [if_neg e]
      by_cases e2 : (105 + 4 * q + c).toNat = (105 + 4 * p + b).toNat
      · rw [if_pos e2]
        intro z y
        exact absurd z y
      · rw [if_neg e2]
        exact h4
/-- a pupil enters a class -/
theorem k_PRt_enter (h : k_PRt r o op ro) (ho : o 2 ≤ 12) {p s b : Int} (hp : 0 ≤ p ∧ p < o 2) (hs : 0 ≤ s ∧ s < 7) (hb : 0 ≤ b ∧ b < 4) (hfree : r (105 + 4 * p + b).toNat = -1) (hno : ∀ c : Int, 0 ≤ c → c < 4 → r (105 + 4 * p + c).toNat ≠ s) (hS : s < o 0) (hop : z_bit (op s.toNat) b = true) : k_PRt (k_u1 r (105 + 4 * p + b).toNat s) o op (k_u1 ro (s * 4 + b).toNat (z_or (ro (s * 4 + b).toNat) (z_one p))) := by
  obtain ⟨a1, a2, a3, a4⟩ := h
  have hsub : ∀ (s' b' q : Int), 0 ≤ q → 0 ≤ s' → s' < 7 → 0 ≤ b' → b' < 4 → (z_bit (k_u1 ro (s * 4 + b).toNat (z_or (ro (s * 4 + b).toNat) (z_one p)) (s' * 4 + b').toNat) q = true ↔ z_bit (ro (s' * 4 + b').toNat) q = true ∨ (s' = s ∧ b' = b ∧ p = q)) := by
    intro s' b' q q0 s0 s1 b0 b1
    unfold k_u1
    by_cases e : s' = s ∧ b' = b
    · obtain ⟨rfl, rfl⟩ := e
      rw [if_pos rfl, z_bit_or, z_bit_one hp.1 q0, Bool.or_eq_true]
      simp
    · rw [if_neg (by omega)]
      constructor
      · exact Or.inl
      · rintro (z | z)
        · exact z
        · exact absurd ⟨z.1, z.2.1⟩ e
  refine ⟨fun q s' b' q0 q1 s0 s1 b0 b1 => ?_, fun q s' b' q0 s0 s1 b0 b1 => ?_, fun q s' b' q0 s0 s1 b0 b1 hz => ?_, fun q b' c q0 q1 b0 b1 c0 c1 => ?_⟩
  · rw [hsub s' b' q q0 s0 s1 b0 b1]
    have h1 := a1 q s' b' q0 q1 s0 s1 b0 b1
    unfold k_u1
    by_cases e : q = p ∧ b' = b
    · obtain ⟨rfl, rfl⟩ := e
      rw [if_pos rfl, h1, hfree]
      constructor
      · rintro (z | z)
        · omega
        · exact z.1.symm
      · intro z
        exact Or.inr ⟨z.symm, rfl, rfl⟩
    · rw [if_neg (by omega), ← h1]
      constructor
      · rintro (z | z)
        · exact z
        · exact absurd ⟨z.2.2.symm, z.2.1⟩ e
      · exact Or.inl
  · cases w : z_bit (k_u1 ro (s * 4 + b).toNat (z_or (ro (s * 4 + b).toNat) (z_one p)) (s' * 4 + b').toNat) q with
    | false => rfl
    | true =>
      rcases (hsub s' b' q (by omega) s0 s1 b0 b1).mp w with z | z
      · rw [a2 q s' b' q0 s0 s1 b0 b1] at z
        cases z
      · omega
  · rcases (hsub s' b' q q0 s0 s1 b0 b1).mp hz with z | z
    · exact a3 q s' b' q0 s0 s1 b0 b1 z
    · obtain ⟨rfl, rfl, rfl⟩ := z
      exact ⟨hS, hop⟩
  · have h4 := a4 q b' c q0 q1 b0 b1 c0 c1
    unfold k_u1
    by_cases e : (105 + 4 * q + b').toNat = (105 + 4 * p + b).toNat
    · rw [if_pos e]
      have eq : q = p := by omega
      by_cases e2 : (105 + 4 * q + c).toNat = (105 + 4 * p + b).toNat
      · intro _ _
        omega
      · rw [if_neg e2]
        intro z _
        rw [eq] at z
        exact absurd z.symm (hno c c0 c1)
    · rw [if_neg e]
      by_cases e2 : (105 + 4 * q + c).toNat = (105 + 4 * p + b).toNat
      · rw [if_pos e2]
        have eq : q = p := by omega
        intro z _
        rw [eq] at z
        exact absurd z (hno b' b0 b1)
      · rw [if_neg e2]
        exact h4
/-- more or fewer open classes; pupils are in open ones -/
theorem k_PRt_op {op' : Nat → Int} (h : k_PRt r o op ro) (hop : ∀ p s b : Int, 0 ≤ p → 0 ≤ s → s < 7 → 0 ≤ b → b < 4 → z_bit (ro (s * 4 + b).toNat) p = true → z_bit (op s.toNat) b = true → z_bit (op' s.toNat) b = true) : k_PRt r o op' ro := by
  obtain ⟨a1, a2, a3, a4⟩ := h
  exact ⟨a1, a2, fun p s b p0 s0 s1 b0 b1 hz => ⟨(a3 p s b p0 s0 s1 b0 b1 hz).1, hop p s b p0 s0 s1 b0 b1 hz (a3 p s b p0 s0 s1 b0 b1 hz).2⟩, a4⟩
end K_R8
