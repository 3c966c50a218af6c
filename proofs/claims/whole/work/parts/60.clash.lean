/-! ===== what is asked, third part: the clashes counted by pairs of subjects and by pupils ===== -/
section K_R4
variable {σ ρ : Nat → Nat → Int} {r : Nat → Int}
theorem z_sum_one {w : Nat → Nat} {x : Nat} {g : Int} : ∀ n : Nat, (∀ i k, i < k → k < n → w i ≠ w k) → ((∃ k, k < n ∧ w k = x) → z_sum n (fun k => if w k = x then g else 0) = g) ∧ ((¬ ∃ k, k < n ∧ w k = x) → z_sum n (fun k => if w k = x then g else 0) = 0)
  | 0, _ => ⟨fun ⟨k, h, _⟩ => absurd h (Nat.not_lt_zero k), fun _ => rfl⟩
  | n + 1, hd => by
    have ih := z_sum_one (w := w) (x := x) (g := g) n fun i k h1 h2 => hd i k h1 (by omega)
    rw [z_sum_s]
    by_cases a : w n = x
    · rw [if_pos a]
      have h0 : ¬ ∃ k, k < n ∧ w k = x := fun ⟨k, h1, h2⟩ => hd k n h1 (by omega) (h2.trans a.symm)
      rw [ih.2 h0]
      exact ⟨fun _ => by omega, fun z => absurd ⟨n, by omega, a⟩ z⟩
    · rw [if_neg a, Int.add_zero]
      refine ⟨fun ⟨k, h1, h2⟩ => ih.1 ⟨k, ?_, h2⟩, fun z => ih.2 fun ⟨k, h1, h2⟩ => z ⟨k, by omega, h2⟩⟩
      have : k ≠ n := fun e => a (e ▸ h2)
      omega
theorem z_sum_sq (F : Nat → Nat → Int) (h0 : ∀ k, F k k = 0) : ∀ n : Nat, z_sum n (fun k => z_sum n (fun i => F k i)) = z_sum n (fun k => z_sum k (fun i => F k i + F i k))
  | 0 => rfl
  | n + 1 => by
    have e : (fun k => z_sum (n + 1) (fun i => F k i)) = fun k => z_sum n (fun i => F k i) + F k n := rfl
    rw [e, z_sum_add, z_sum_s, z_sum_sq F h0 n, z_sum_s (g := fun k => F k n), z_sum_s, z_sum_add, h0]
    have : z_sum n (F n) = z_sum n (fun i => F n i) := rfl
    omega
theorem z_pairs (w : Nat → Nat) (c : Nat → Nat → Int) (hc : ∀ a b, c a b = c b a) (n S : Nat) (hw : ∀ k, k < n → w k < S) (hd : ∀ i k, i < k → k < n → w i ≠ w k) (g : Nat → Nat → Int) (hg : ∀ s o, ((∃ k, k < n ∧ w k = s) ∧ (∃ k, k < n ∧ w k = o) → g s o = c s o) ∧ (¬ ((∃ k, k < n ∧ w k = s) ∧ ∃ k, k < n ∧ w k = o) → g s o = 0)) : z_sum S (fun s => z_sum s (fun o => g s o)) = z_sum n (fun k => z_sum k (fun i => c (w i) (w k))) := by
  have h1 : ∀ s o, g s o = z_sum n (fun k => if w k = s then z_sum n (fun i => if w i = o then c s o else 0) else 0) := by
    intro s o
    have q1 := z_sum_one (w := w) (x := s) (g := z_sum n (fun i => if w i = o then c s o else 0)) n hd
    have q2 := z_sum_one (w := w) (x := o) (g := c s o) n hd
    by_cases a : ∃ k, k < n ∧ w k = s
    · rw [q1.1 a]
      by_cases b : ∃ k, k < n ∧ w k = o
      · rw [q2.1 b, (hg s o).1 ⟨a, b⟩]
      · rw [q2.2 b, (hg s o).2 fun z => b z.2]
    · rw [q1.2 a, (hg s o).2 fun z => a z.1]
  have h2 : ∀ s, z_sum s (fun o => g s o) = z_sum n (fun k => if s = w k then z_sum n (fun i => if w i < s then c s (w i) else 0) else 0) := by
    intro s
    rw [z_sum_cong s fun o _ => h1 s o, z_sum_swap]
    refine z_sum_cong n fun k _ => ?_
    rw [z_sum_mul0, z_sum_swap]
    by_cases a : w k = s
    · rw [if_pos a, if_pos a.symm]
      refine z_sum_cong n fun i _ => ?_
      have q := z_sum_delta (fun o => c s o) (w i) s
      rw [← q]
      refine z_sum_cong s fun o _ => ?_
      by_cases b : w i = o
      · rw [if_pos b, if_pos b.symm]
      · rw [if_neg b, if_neg fun z => b z.symm]
    · rw [if_neg a, if_neg fun z => a z.symm]
  rw [z_sum_cong S fun s _ => h2 s, z_sum_swap]
  have h3 : ∀ k, k < n → z_sum S (fun s => if s = w k then z_sum n (fun i => if w i < s then c s (w i) else 0) else 0) = z_sum n (fun i => if w i < w k then c (w k) (w i) else 0) := by
    intro k hk
    rw [z_sum_delta (fun s => z_sum n (fun i => if w i < s then c s (w i) else 0)) (w k) S, if_pos (hw k hk)]
  rw [z_sum_cong n h3, z_sum_sq (fun k i => if w i < w k then c (w k) (w i) else 0) (fun k => if_neg (Nat.lt_irrefl _)) n]
  refine z_sum_cong n fun k hk => z_sum_cong k fun i hi => ?_
  have hne := hd i k hi hk
  rcases Nat.lt_or_ge (w i) (w k) with a | a
  · rw [if_pos a, if_neg (by omega), hc (w k) (w i), Int.add_zero]
  · rw [if_neg (by omega), if_pos (by omega), Int.zero_add]
theorem k_fold_if {c : Nat → Prop} [DecidablePred c] (g : Nat → Int) (a : Int) : ∀ n : Nat, k_fold n (fun o x => if c o then x + g o else x) a = a + z_sum n (fun o => if c o then g o else 0)
  | 0 => (Int.add_zero a).symm
  | n + 1 => by
    show (if c n then _ else _) = _
    rw [k_fold_if g a n, z_sum_s]
    by_cases h : c n
    · rw [if_pos h, if_pos h]
      omega
    · rw [if_neg h, if_neg h]
      omega
theorem m_clash_symm (r : Nat → Int) (a b : Int) : m_clash r a b = m_clash r b a := by
  have h : ∀ a b : Int, m_clash r a b = true → m_clash r b a = true := fun a b h => by
    rw [z_clash] at h ⊢
    exact fun x y hx hy hxy z => h y x hy hx (fun e => hxy e.symm) ⟨z.2, z.1⟩
  cases q : m_clash r a b with
  | true => exact (h a b q).symm
  | false =>
    cases q2 : m_clash r b a with
    | true => exact q.symm.trans (h b a q2)
    | false => rfl
def m_cl (r : Nat → Int) (a b : Nat) : Int := if m_clash r (a : Int) (b : Int) = true then 1 else 0
theorem q_a_clashCount (hR : k_P1 (ρ 124) σ) (hI : k_Ty σ) : f_ccN σ (σ 1 0).toNat = (m_clashCount ρ).1 := by
  have e2 := hR.2.1.1.2.2
  have hS := hI.1
  have hP := hI.2.2.1
  have e : (m_clashCount ρ).1 = k_it (b_clashCount_4 ρ) (ρ 124 2).toNat 0 0 := rfl
  -- the model's sum
  have hm : ∀ (i : Nat) (x : Int), b_clashCount_4 ρ i x = x + z_sum (ρ 124 (45 + (i : Int)).toNat).toNat (fun k => z_sum k (fun j => if m_clash (ρ 124) (ρ 124 (57 + 3 * (i : Int) + (j : Int)).toNat) (ρ 124 (57 + 3 * (i : Int) + (k : Int)).toNat) = true then 1 else 0)) := by
    intro i x
    have h16 : ∀ (k : Nat) (y : Int), b_clashCount_16 ρ i x k y = y + z_sum k (fun j => if m_clash (ρ 124) (ρ 124 (57 + 3 * (i : Int) + (j : Int)).toNat) (ρ 124 (57 + 3 * (i : Int) + (k : Int)).toNat) = true then 1 else 0) := by
      intro k y
      have h : ∀ n : Nat, k_it (b_clashCount_32 ρ i x k y) n 0 y = y + z_sum n (fun j => if m_clash (ρ 124) (ρ 124 (57 + 3 * (i : Int) + (j : Int)).toNat) (ρ 124 (57 + 3 * (i : Int) + (k : Int)).toNat) = true then 1 else 0) := by
        intro n
        induction n with
        | zero => exact (Int.add_zero y).symm
        | succ n ih =>
          rw [k_it_succ, Nat.zero_add, ih, z_sum_s]
          unfold b_clashCount_32
          split <;> omega
      exact h k
    have h : ∀ n : Nat, k_it (b_clashCount_16 ρ i x) n 0 x = x + z_sum n (fun k => z_sum k (fun j => if m_clash (ρ 124) (ρ 124 (57 + 3 * (i : Int) + (j : Int)).toNat) (ρ 124 (57 + 3 * (i : Int) + (k : Int)).toNat) = true then 1 else 0)) := by
      intro n
      induction n with
      | zero => exact (Int.add_zero x).symm
      | succ n ih =>
        rw [k_it_succ, Nat.zero_add, ih, h16, z_sum_s]
        omega
    exact h _
  rw [e, e2, k_it_sum (f := b_clashCount_4 ρ) hm]
  -- the class's sum
  have hc : f_ccN σ (σ 1 0).toNat = z_sum (σ 1 0).toNat (fun s => z_sum s (fun o => if f_clash σ (s : Int) (o : Int) then f_both σ (s : Int) (o : Int) else 0)) := by
    have h : ∀ n : Nat, f_ccN σ n = z_sum n (fun s => z_sum s (fun o => if f_clash σ (s : Int) (o : Int) then f_both σ (s : Int) (o : Int) else 0)) := by
      intro n
      induction n with
      | zero => rfl
      | succ n ih =>
        have e3 : f_ccN σ (n + 1) = f_ccI σ n (f_ccN σ n) n := rfl
        rw [e3, z_sum_s, ← ih]
        exact k_fold_if (c := fun o : Nat => f_clash σ (n : Int) (o : Int)) (fun o => f_both σ (n : Int) (o : Int)) (f_ccN σ n) n
    exact h _
  rw [hc]
  have h1 : ∀ s, s < (σ 1 0).toNat → z_sum s (fun o => if f_clash σ (s : Int) (o : Int) then f_both σ (s : Int) (o : Int) else 0) = z_sum (σ 1 2).toNat (fun p => z_sum s (fun o => if m_isWish (ρ 124) (p : Int) (s : Int) = true ∧ m_isWish (ρ 124) (p : Int) (o : Int) = true then m_cl (ρ 124) s o else 0)) := by
    intro s hs
    rw [z_sum_swap]
    refine z_sum_cong s fun o ho => ?_
    have q := q_clash hR hI (s := (s : Int)) (o := (o : Int)) ⟨by omega, by omega⟩ ⟨by omega, by omega⟩
    have b : f_both σ (s : Int) (o : Int) = z_sum (σ 1 2).toNat (fun p => if m_isWish (ρ 124) (p : Int) (s : Int) = true ∧ m_isWish (ρ 124) (p : Int) (o : Int) = true then 1 else 0) := by
      have e5 : f_both σ (s : Int) (o : Int) = z_sum (σ 1 2).toNat (fun p => zb (z_bit (f_wishSet σ (p : Int)) (s : Int) = true ∧ z_bit (f_wishSet σ (p : Int)) (o : Int) = true)) := rfl
      rw [e5]
      refine z_sum_cong _ fun p hp => ?_
      have w1 := q_isWish hR hI (p := (p : Int)) (s := (s : Int)) ⟨by omega, by omega⟩ (by omega)
      have w2 := q_isWish hR hI (p := (p : Int)) (s := (o : Int)) ⟨by omega, by omega⟩ (by omega)
      unfold zb
      simp only [w1, w2]
    unfold m_cl
    by_cases a : m_clash (ρ 124) (s : Int) (o : Int) = true
    · rw [if_pos (q.mpr a), b, if_pos a]
    · rw [if_neg (fun z => a (q.mp z)), if_neg a]
      refine ((z_sum_cong _ fun p _ => ?_).trans (z_sum_0 _)).symm
      split <;> rfl
  rw [z_sum_cong _ h1, z_sum_swap]
  refine z_sum_cong _ fun p hp => ?_
  have hp2 : 0 ≤ (p : Int) ∧ (p : Int) < σ 1 2 := ⟨by omega, by omega⟩
  have hmany := (hR.2.2.1.1 (p : Int) hp2.1 hp2.2).1
  have hwi : ∀ k : Nat, (k : Int) < ρ 124 (45 + (p : Int)).toNat → (0 ≤ ρ 124 (57 + 3 * (p : Int) + (k : Int)).toNat ∧ ρ 124 (57 + 3 * (p : Int) + (k : Int)).toNat < σ 1 0) := fun k hk => by
    have h := q_wish hR hI (k := (k : Int)) hp2 ⟨by omega, by omega⟩
    rw [← h.1]
    exact h.2
  have hpr := z_pairs (fun k => (ρ 124 (57 + 3 * (p : Int) + (k : Int)).toNat).toNat) (m_cl (ρ 124)) (fun a b => by unfold m_cl; rw [m_clash_symm]) (ρ 124 (45 + (p : Int)).toNat).toNat (σ 1 0).toNat (fun k hk => by have := hwi k (by omega); omega) (fun i k h1 h2 => by
    have a := hwi i (by omega)
    have b := hwi k (by omega)
    have d := hR.2.2.1.2.2.1 (p : Int) (i : Int) (k : Int) hp2.1 hp2.2 (by omega) (by omega) (by omega)
    rw [← (hR.2.2.1.2.1 (p : Int) (i : Int) hp2.1 hp2.2 (by omega) (by omega)).1, ← (hR.2.2.1.2.1 (p : Int) (k : Int) hp2.1 hp2.2 (by omega) (by omega)).1] at d
    show (ρ 124 _).toNat ≠ (ρ 124 _).toNat
    omega) (fun s o => if m_isWish (ρ 124) (p : Int) (s : Int) = true ∧ m_isWish (ρ 124) (p : Int) (o : Int) = true then m_cl (ρ 124) s o else 0) (fun s o => by
    have hiff : ∀ x : Nat, m_isWish (ρ 124) (p : Int) (x : Int) = true ↔ ∃ k, k < (ρ 124 (45 + (p : Int)).toNat).toNat ∧ (ρ 124 (57 + 3 * (p : Int) + (k : Int)).toNat).toNat = x := fun x => by
      rw [z_isWish]
      constructor
      · rintro ⟨k, h1, h2⟩
        exact ⟨k, h1, by omega⟩
      · rintro ⟨k, h1, h2⟩
        have := hwi k (by omega)
        exact ⟨k, h1, by omega⟩
    have a := hiff s
    have b := hiff o
    constructor
    · intro z
      exact if_pos ⟨a.mpr z.1, b.mpr z.2⟩
    · intro z
      exact if_neg fun y => z ⟨a.mp y.1, b.mp y.2⟩)
  refine hpr.trans ?_
  refine z_sum_cong _ fun k hk => z_sum_cong k fun i hi => ?_
  have a := hwi i (by omega)
  have b := hwi k (by omega)
  show (if m_clash (ρ 124) (((ρ 124 _).toNat : Nat) : Int) (((ρ 124 _).toNat : Nat) : Int) = true then (1 : Int) else 0) = _
  rw [Int.toNat_of_nonneg a.1, Int.toNat_of_nonneg b.1]
end K_R4
